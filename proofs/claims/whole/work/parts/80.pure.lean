/-! PURE SIDE: the end: on every script the law answers 1 -/
theorem b_start (L : Nat) (xs : Nat → Int32) : ∃ (w h : Nat) (le gr' s lo hi fs : Nat → Int32), 4 ≤ w ∧ 4 ≤ h ∧ w ≤ 24 ∧ h ≤ 24 ∧ p_law_start L xs = some ((zI w), (zI h), (w * h), (w * h), 12, 12, (w * h), (w * h), (zI w), (zI h), (w * h), (w * h), (w * h), (w * h), 7 * ((w * h + 1) / 2), 30, 30, (zI w), (zI h), 576, 576, 576, 576, 576, 576, 576, 30, 30, (fun _ => 0), (fun _ => 0), 0, 0, 0, 0, 0, 0, 0, 0, 0, (fun _ => 0), (fun _ => 0), 0, 1, 10, 0, 0, le, gr', 0, 0, 0, s, (fun _ => 0), (fun _ => 0), (fun _ => 0), (fun _ => 0), 0, (fun _ => 0), (fun _ => 0), 0, 1, 0, 0, 0, 10, 0, 0, 0, 0, 0, 0, 0, 0, 0, (fun _ => 0), (fun _ => 0), (fun _ => 0), lo, hi, fs, (fun _ => 0), (fun _ => 0), (fun _ => 0), (fun _ => 0)) ∧ Good w h (2, (fun _ => 0), (fun _ => 0), 0, 0, 0, 0, 0, 0, 0, 0, 0, (fun _ => 0), (fun _ => 0), 0, 1, 10, 0, 0, le, gr', 0, 0, 0, s, (fun _ => 0), (fun _ => 0), (fun _ => 0), (fun _ => 0), 0, (fun _ => 0), (fun _ => 0), 0, 1, 0, 0, 0, 10, 0, 0, 0, 0, 0, 0, 0, 0, 0, (fun _ => 0), (fun _ => 0), (fun _ => 0), lo, hi, fs, (fun _ => 0), (fun _ => 0), (fun _ => 0), (fun _ => 0)) := by
  obtain ⟨w, w4, hw, a1, a2⟩ := q_side (lawCell L xs 0)
  obtain ⟨h, h4, hh, b1, b2⟩ := q_side (lawCell L xs 1)
  obtain ⟨le, gr', s, c1, c2, c3⟩ := s_pic _ _ hw hh a1 b1
  obtain ⟨lo, hi, fs, d1, d2⟩ := s_mod _ _ a2 b2
  refine ⟨w, h, le, gr', s, lo, hi, fs, w4, h4, hw, hh, ?_, ?_⟩
  · unfold p_law_start
    rw [c1, d1]
    simp only [Option.bind_some]
    rw [pu_gt (by decide)]
  · have hdk : ∀ p, (fun _ : Nat => False) p → p < 576 ∧ gr w h p := fun p q => q.elim
    have h0 : cn (fun _ => False) 576 = 0 := cn_cut (m := 0) (by omega) (fun k _ _ q => q.1)
    have e0 : (0 : Int32) = zI (cn (fun _ => False) 576 : Int) := by rw [h0]; rfl
    have hl : ∀ x y : Nat, x < w → y < h → y * w + x < w * h ∧ 24 * y + x < 576 := fun x y hx hy => ⟨g_lt hx hy, by omega⟩
    have p1 : IG w h (fun _ => 0) (fun _ => 0) := fun x y hx hy => ⟨0, by omega, by omega, rfl, rfl⟩
    have p2 : IS 0 0 0 0 := ⟨0, 0, by omega, by omega, by omega, by omega, rfl, rfl, rfl, rfl⟩
    have p3 : ICh w h 0 (fun _ => 0) (fun _ => 0) (fun _ => 0) := ⟨0, fun _ => 0, fun _ => 0, by omega, rfl, ls_0, fun _ => rfl, fun k hk => by omega⟩
    have p4 : INf 10 10 := ⟨10, by omega, by omega, by decide, by decide⟩
    have p5 : INr w h le gr' lo hi := fun x y hx hy => by
      obtain ⟨l1, l2⟩ := hl x y hx hy
      exact Or.inl ⟨(c2 _ l1).1, (c2 _ l1).2, (d2 _ l2).1, (d2 _ l2).2.1⟩
    have p6 : IMk 0 0 := ⟨0, by omega, by omega, rfl, rfl⟩
    have p7 : ISp w h 0 0 s (fun _ => 0) fs (fun _ => 0) := ⟨fun _ => False, fun _ => 0, hdk, e0, e0, ⟨fun p hp _ => by
      unfold gr at hp
      exact c3 _ (g_lt hp.1 hp.2), fun r p _ q => q.elim⟩, fun r _ q => q.1.elim, ⟨fun k hk => ⟨fun q => q.elim, fun _ => (d2 k hk).2.2⟩, fun p q z => z.elim⟩, fun p q => q.elim⟩
    have p8 : IDy 0 (fun _ => 0) (fun _ => 0) 0 (fun _ => 0) (fun _ => 0) := ⟨0, by omega, rfl, rfl, fun j hj => by omega⟩
    exact ⟨p1, p1, p2, p3, p4, p5, rfl, rfl, p6, p7, p8⟩
theorem law_pure (xs : List Int32) (hL : xs.length ≤ 2562) : p_law_good xs.length (fun j => xs.getD j 0) := by
  obtain ⟨w, h, le, gr', s, lo, hi, fs, w4, h4, hw, hh, hs, hg⟩ := b_start xs.length (fun j => xs.getD j 0)
  refine ⟨⟨_, hs⟩, ?_⟩
  intro x_width x_height x_formerValues_n x_laterValues_n x_charts_xs_n x_charts_ys_n x_noise_least_n x_noise_greatest_n x_spots_width x_spots_height x_spots_spotOf_n x_spots_changes_n x_spots_joinedX_n x_spots_joinedY_n x_spots_facts_n x_days_days_n x_days_marks_n m_width m_height m_former_n m_later_n m_charts_n m_lows_n m_highs_n m_firsts_n m_changes_n m_dates_n m_kept_n x_formerValues_f x_laterValues_f x_registered_across x_registered_down x_registered_differences x_registered_cells x_tried_across x_tried_down x_tried_differences x_tried_cells x_charts_held x_charts_xs_f x_charts_ys_f x_light_above x_light_below x_noise_floor x_noise_told x_noise_beyondFloor x_noise_least_f x_noise_greatest_f x_spots_joined x_spots_found x_spots_marked x_spots_spotOf_f x_spots_changes_f x_spots_joinedX_f x_spots_joinedY_f x_spots_facts_f x_days_kept x_days_days_f x_days_marks_f x_slope_above x_slope_below m_thrown m_repeats m_wide m_floor m_across m_down m_sum m_many m_above m_below m_marked m_spots m_days m_former_f m_later_f m_charts_f m_lows_f m_highs_f m_firsts_f m_changes_f m_dates_f m_kept_f out_f hst
  rw [hs] at hst
  have hst := Option.some.inj hst
  simp only [Prod.mk.injEq] at hst
  obtain ⟨rfl, rfl, rfl, rfl, rfl, rfl, rfl, rfl, rfl, rfl, rfl, rfl, rfl, rfl, rfl, rfl, rfl, rfl, rfl, rfl, rfl, rfl, rfl, rfl, rfl, rfl, rfl, rfl, rfl, rfl, rfl, rfl, rfl, rfl, rfl, rfl, rfl, rfl, rfl, rfl, rfl, rfl, rfl, rfl, rfl, rfl, rfl, rfl, rfl, rfl, rfl, rfl, rfl, rfl, rfl, rfl, rfl, rfl, rfl, rfl, rfl, rfl, rfl, rfl, rfl, rfl, rfl, rfl, rfl, rfl, rfl, rfl, rfl, rfl, rfl, rfl, rfl, rfl, rfl, rfl, rfl, rfl, rfl, rfl⟩ := hst
  exact g_loop w4 h4 hw hh rfl hL _ rfl hg
