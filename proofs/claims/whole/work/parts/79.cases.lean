/-! PURE SIDE: the cases of the law: class and reference answer alike, and stay alike -/
def LI (w h : Nat) (x_formerValues_f : (Nat → Int32)) (x_laterValues_f : (Nat → Int32)) (x_registered_across : Int32) (x_registered_down : Int32) (x_charts_held : Int32) (x_charts_xs_f : (Nat → Int32)) (x_charts_ys_f : (Nat → Int32)) (x_noise_floor : Int32) (x_noise_told : Int32) (x_noise_beyondFloor : Int32) (x_noise_least_f : (Nat → Int32)) (x_noise_greatest_f : (Nat → Int32)) (x_spots_found : Int32) (x_spots_marked : Int32) (x_spots_spotOf_f : (Nat → Int32)) (x_spots_facts_f : (Nat → Int32)) (x_days_kept : Int32) (x_days_days_f : (Nat → Int32)) (x_days_marks_f : (Nat → Int32)) (m_repeats : Int32) (m_wide : Int32) (m_floor : Int32) (m_across : Int32) (m_down : Int32) (m_marked : Int32) (m_spots : Int32) (m_days : Int32) (m_former_f : (Nat → Int32)) (m_later_f : (Nat → Int32)) (m_charts_f : (Nat → Int32)) (m_lows_f : (Nat → Int32)) (m_highs_f : (Nat → Int32)) (m_firsts_f : (Nat → Int32)) (m_changes_f : (Nat → Int32)) (m_dates_f : (Nat → Int32)) (m_kept_f : (Nat → Int32)) : Prop :=
  IG w h x_formerValues_f m_former_f ∧ IG w h x_laterValues_f m_later_f ∧ IS x_registered_across x_registered_down m_across m_down ∧ ICh w h x_charts_held x_charts_xs_f x_charts_ys_f m_charts_f ∧ INf x_noise_floor m_floor ∧ INr w h x_noise_least_f x_noise_greatest_f m_lows_f m_highs_f ∧ m_repeats = x_noise_told ∧ m_wide = x_noise_beyondFloor ∧ IMk x_spots_marked m_marked ∧ ISp w h x_spots_found m_spots x_spots_spotOf_f x_spots_facts_f m_firsts_f m_changes_f ∧ IDy x_days_kept x_days_days_f x_days_marks_f m_days m_dates_f m_kept_f
def Good (w h : Nat) : (Int32 × (Nat → Int32) × (Nat → Int32) × Int32 × Int32 × Int32 × Int32 × Int32 × Int32 × Int32 × Int32 × Int32 × (Nat → Int32) × (Nat → Int32) × Int64 × Int64 × Int32 × Int32 × Int32 × (Nat → Int32) × (Nat → Int32) × Int32 × Int32 × Int32 × (Nat → Int32) × (Nat → Int32) × (Nat → Int32) × (Nat → Int32) × (Nat → Int32) × Int32 × (Nat → Int32) × (Nat → Int32) × Int64 × Int64 × Int32 × Int32 × Int32 × Int32 × Int32 × Int32 × Int64 × Int64 × Int64 × Int64 × Int32 × Int32 × Int32 × (Nat → Int32) × (Nat → Int32) × (Nat → Int32) × (Nat → Int32) × (Nat → Int32) × (Nat → Int32) × (Nat → Int32) × (Nat → Int32) × (Nat → Int32) × (Nat → Int64)) → Prop := fun ((i, x_formerValues_f, x_laterValues_f, x_registered_across, x_registered_down, x_registered_differences, x_registered_cells, x_tried_across, x_tried_down, x_tried_differences, x_tried_cells, x_charts_held, x_charts_xs_f, x_charts_ys_f, x_light_above, x_light_below, x_noise_floor, x_noise_told, x_noise_beyondFloor, x_noise_least_f, x_noise_greatest_f, x_spots_joined, x_spots_found, x_spots_marked, x_spots_spotOf_f, x_spots_changes_f, x_spots_joinedX_f, x_spots_joinedY_f, x_spots_facts_f, x_days_kept, x_days_days_f, x_days_marks_f, x_slope_above, x_slope_below, m_thrown, m_repeats, m_wide, m_floor, m_across, m_down, m_sum, m_many, m_above, m_below, m_marked, m_spots, m_days, m_former_f, m_later_f, m_charts_f, m_lows_f, m_highs_f, m_firsts_f, m_changes_f, m_dates_f, m_kept_f, out_f) : Int32 × (Nat → Int32) × (Nat → Int32) × Int32 × Int32 × Int32 × Int32 × Int32 × Int32 × Int32 × Int32 × Int32 × (Nat → Int32) × (Nat → Int32) × Int64 × Int64 × Int32 × Int32 × Int32 × (Nat → Int32) × (Nat → Int32) × Int32 × Int32 × Int32 × (Nat → Int32) × (Nat → Int32) × (Nat → Int32) × (Nat → Int32) × (Nat → Int32) × Int32 × (Nat → Int32) × (Nat → Int32) × Int64 × Int64 × Int32 × Int32 × Int32 × Int32 × Int32 × Int32 × Int64 × Int64 × Int64 × Int64 × Int32 × Int32 × Int32 × (Nat → Int32) × (Nat → Int32) × (Nat → Int32) × (Nat → Int32) × (Nat → Int32) × (Nat → Int32) × (Nat → Int32) × (Nat → Int32) × (Nat → Int32) × (Nat → Int64)) => LI w h x_formerValues_f x_laterValues_f x_registered_across x_registered_down x_charts_held x_charts_xs_f x_charts_ys_f x_noise_floor x_noise_told x_noise_beyondFloor x_noise_least_f x_noise_greatest_f x_spots_found x_spots_marked x_spots_spotOf_f x_spots_facts_f x_days_kept x_days_days_f x_days_marks_f m_repeats m_wide m_floor m_across m_down m_marked m_spots m_days m_former_f m_later_f m_charts_f m_lows_f m_highs_f m_firsts_f m_changes_f m_dates_f m_kept_f
theorem ISp_eq {w h : Nat} {fnd msp : Int32} {s ft fs ch : Nat → Int32} (hI : ISp w h fnd msp s ft fs ch) : fnd = msp := by
  obtain ⟨dk, Cg, hd, h1, h2, -⟩ := hI
  rw [h1, h2]
theorem v_at {j L d : Nat} {c : Int32} (hc : c = zI (d : Int)) (hd : d ≤ 4) (hj : j + 5 ≤ L) (hL : L ≤ 2562) : vp_in (zI (j : Int) + c) L := by
  rw [hc, zI_add, zI_in (by omega) (by omega)]
  omega
theorem if01 {c : Prop} [Decidable c] : (if c then some (0 : Int32) else some 1) = some (if c then 0 else 1) := by split <;> rfl
theorem if01_in {c : Prop} [Decidable c] : (if c then (0 : Int32) else 1) = 0 ∨ (if c then (0 : Int32) else 1) = 1 := by
  split
  · exact Or.inl rfl
  · exact Or.inr rfl
theorem fin2_l {α : Type} {A B : Option α} {k r : Int32} {out : Nat → Int64} (hv : k = 0 → out 0 = r.toInt64) :
    (if k = 0 then pu_gd (vp_in 0 1) (if lg_cmp (out (0 : Int32).toNatClampNeg) r.toInt64 = 0 then A else B) else A) = A := by
  have := fin_l (A := A) (B := B) (C := A) hv
  rw [if_pos rfl] at this
  exact this
theorem fin2_J {α : Type} {A B : Option α} {k : Int32} {r : Int64} {out : Nat → Int64} (hv : k = 0 → out 0 = r) :
    (if k = 0 then pu_gd (vp_in 0 1) (if lg_cmp (out (0 : Int32).toNatClampNeg) r = 0 then A else B) else A) = A := by
  have := fin_J (A := A) (B := B) (C := A) hv
  rw [if_pos rfl] at this
  exact this
theorem fin_c {α : Type} {A B : Option α} {k r : Int32} {out : Nat → Int64} (hv : k = 0 → (r = 0 ∧ out 0 = 0) ∨ (r = 1 ∧ out 0 = 1)) :
    (if k = 0 then pu_gd (vp_in 0 1) ((if r = 0 then some (0 : Int64) else some 1).bind (fun j => if lg_cmp (out (0 : Int32).toNatClampNeg) j = 0 then A else B)) else A) = A := by
  by_cases h : k = 0
  · rw [if_pos h, pu_gt in01]
    rcases hv h with ⟨h1, h2⟩ | ⟨h1, h2⟩
    · rw [if_pos h1]
      show (if lg_cmp (out 0) 0 = 0 then A else B) = A
      rw [if_pos ((lg_cmp_eq _ _).mpr h2)]
    · rw [if_neg (by rw [h1]; exact one0)]
      show (if lg_cmp (out 0) 1 = 0 then A else B) = A
      rw [if_pos ((lg_cmp_eq _ _).mpr h2)]
  · rw [if_neg h]
section AG2
variable {w h L N : Nat} {xs : Nat → Int32} {x_formerValues_f : (Nat → Int32)} {x_laterValues_f : (Nat → Int32)} {x_registered_across : Int32} {x_registered_down : Int32} {x_registered_differences : Int32} {x_registered_cells : Int32} {x_tried_across : Int32} {x_tried_down : Int32} {x_tried_differences : Int32} {x_tried_cells : Int32} {x_charts_held : Int32} {x_charts_xs_f : (Nat → Int32)} {x_charts_ys_f : (Nat → Int32)} {x_light_above : Int64} {x_light_below : Int64} {x_noise_floor : Int32} {x_noise_told : Int32} {x_noise_beyondFloor : Int32} {x_noise_least_f : (Nat → Int32)} {x_noise_greatest_f : (Nat → Int32)} {x_spots_joined : Int32} {x_spots_found : Int32} {x_spots_marked : Int32} {x_spots_spotOf_f : (Nat → Int32)} {x_spots_changes_f : (Nat → Int32)} {x_spots_joinedX_f : (Nat → Int32)} {x_spots_joinedY_f : (Nat → Int32)} {x_spots_facts_f : (Nat → Int32)} {x_days_kept : Int32} {x_days_days_f : (Nat → Int32)} {x_days_marks_f : (Nat → Int32)} {x_slope_above : Int64} {x_slope_below : Int64} {m_thrown : Int32} {m_floor : Int32} {m_across : Int32} {m_down : Int32} {m_sum : Int64} {m_many : Int64} {m_above : Int64} {m_below : Int64} {m_marked : Int32} {m_spots : Int32} {m_days : Int32} {m_former_f : (Nat → Int32)} {m_later_f : (Nat → Int32)} {m_charts_f : (Nat → Int32)} {m_lows_f : (Nat → Int32)} {m_highs_f : (Nat → Int32)} {m_firsts_f : (Nat → Int32)} {m_changes_f : (Nat → Int32)} {m_dates_f : (Nat → Int32)} {m_kept_f : (Nat → Int32)} {out_f : (Nat → Int64)}
theorem g_c0 (w4 : 4 ≤ w) (h4 : 4 ≤ h) (hw : w ≤ 24) (hh : h ≤ 24) (hN : N = 7 * ((w * h + 1) / 2)) (hL : L ≤ 2562) {j : Nat} (hj : j + 5 ≤ L) (hI : LI w h x_formerValues_f x_laterValues_f x_registered_across x_registered_down x_charts_held x_charts_xs_f x_charts_ys_f x_noise_floor x_noise_told x_noise_beyondFloor x_noise_least_f x_noise_greatest_f x_spots_found x_spots_marked x_spots_spotOf_f x_spots_facts_f x_days_kept x_days_days_f x_days_marks_f x_noise_told x_noise_beyondFloor m_floor m_across m_down m_marked m_spots m_days m_former_f m_later_f m_charts_f m_lows_f m_highs_f m_firsts_f m_changes_f m_dates_f m_kept_f) : ∃ s', p_law_c0 L xs (zI w) (zI h) (w * h) (w * h) (zI w) (zI h) 576 576 (zI (j : Int)) x_formerValues_f x_laterValues_f x_registered_across x_registered_down x_registered_differences x_registered_cells x_tried_across x_tried_down x_tried_differences x_tried_cells x_charts_held x_charts_xs_f x_charts_ys_f x_light_above x_light_below x_noise_floor x_noise_told x_noise_beyondFloor x_noise_least_f x_noise_greatest_f x_spots_joined x_spots_found x_spots_marked x_spots_spotOf_f x_spots_changes_f x_spots_joinedX_f x_spots_joinedY_f x_spots_facts_f x_days_kept x_days_days_f x_days_marks_f x_slope_above x_slope_below m_thrown x_noise_told x_noise_beyondFloor m_floor m_across m_down m_sum m_many m_above m_below m_marked m_spots m_days m_former_f m_later_f m_charts_f m_lows_f m_highs_f m_firsts_f m_changes_f m_dates_f m_kept_f out_f = some (.inl s') ∧ s'.1 = zI (j : Int) + 5 ∧ Good w h s' := by
  obtain ⟨hF, hG, hS, hC, hf, hr, -, -, hm, hP, hD⟩ := hI
  have v1 : vp_in (zI (j : Int) + 1) L := v_at (d := 1) zl1 (by omega) hj hL
  have v2 : vp_in (zI (j : Int) + 2) L := v_at (d := 2) zl2 (by omega) hj hL
  have v3 : vp_in (zI (j : Int) + 3) L := v_at (d := 3) zl3 (by omega) hj hL
  have v4 : vp_in (zI (j : Int) + 4) L := v_at (d := 4) zl4 (by omega) hj hL
  unfold p_law_c0
  obtain ⟨k, xf', xl', o', r, mf', ml', e1, e2, hv, hF', hG'⟩ := a_cell (th := m_thrown) (re := x_noise_told) (wi := x_noise_beyondFloor) (fl := m_floor) (ac := m_across) (dn := m_down) (su := m_sum) (my := m_many) (ab := m_above) (be := m_below) (ma := m_marked) (sp := m_spots) (da := m_days) (out := out_f) hw hh (if xs (zI (j : Int) + 1).toNatClampNeg = 0 then (0 : Int32) else 1) (xs (zI (j : Int) + 2).toNatClampNeg) (xs (zI (j : Int) + 3).toNatClampNeg) (xs (zI (j : Int) + 4).toNatClampNeg) hF hG
  simp only [pu_gt v1, pu_gt v2, pu_gt v3, pu_gt v4, if01, Option.bind_some, e1, e2, p_Mod_thrown, if_true]
  rw [fin2_l hv]
  exact ⟨_, rfl, rfl, ⟨hF', hG', hS, hC, hf, hr, rfl, rfl, hm, hP, hD⟩⟩
theorem g_c1 (w4 : 4 ≤ w) (h4 : 4 ≤ h) (hw : w ≤ 24) (hh : h ≤ 24) (hN : N = 7 * ((w * h + 1) / 2)) (hL : L ≤ 2562) {j : Nat} (hj : j + 5 ≤ L) (hI : LI w h x_formerValues_f x_laterValues_f x_registered_across x_registered_down x_charts_held x_charts_xs_f x_charts_ys_f x_noise_floor x_noise_told x_noise_beyondFloor x_noise_least_f x_noise_greatest_f x_spots_found x_spots_marked x_spots_spotOf_f x_spots_facts_f x_days_kept x_days_days_f x_days_marks_f x_noise_told x_noise_beyondFloor m_floor m_across m_down m_marked m_spots m_days m_former_f m_later_f m_charts_f m_lows_f m_highs_f m_firsts_f m_changes_f m_dates_f m_kept_f) : ∃ s', p_law_c1 L xs (zI w) (zI h) (w * h) (w * h) (zI w) (zI h) 576 576 (zI (j : Int)) x_formerValues_f x_laterValues_f x_registered_across x_registered_down x_registered_differences x_registered_cells x_tried_across x_tried_down x_tried_differences x_tried_cells x_charts_held x_charts_xs_f x_charts_ys_f x_light_above x_light_below x_noise_floor x_noise_told x_noise_beyondFloor x_noise_least_f x_noise_greatest_f x_spots_joined x_spots_found x_spots_marked x_spots_spotOf_f x_spots_changes_f x_spots_joinedX_f x_spots_joinedY_f x_spots_facts_f x_days_kept x_days_days_f x_days_marks_f x_slope_above x_slope_below m_thrown x_noise_told x_noise_beyondFloor m_floor m_across m_down m_sum m_many m_above m_below m_marked m_spots m_days m_former_f m_later_f m_charts_f m_lows_f m_highs_f m_firsts_f m_changes_f m_dates_f m_kept_f out_f = some (.inl s') ∧ s'.1 = zI (j : Int) + 5 ∧ Good w h s' := by
  obtain ⟨hF, hG, hS, hC, hf, hr, -, -, hm, hP, hD⟩ := hI
  have v1 : vp_in (zI (j : Int) + 1) L := v_at (d := 1) zl1 (by omega) hj hL
  have v2 : vp_in (zI (j : Int) + 2) L := v_at (d := 2) zl2 (by omega) hj hL
  have v3 : vp_in (zI (j : Int) + 3) L := v_at (d := 3) zl3 (by omega) hj hL
  have v4 : vp_in (zI (j : Int) + 4) L := v_at (d := 4) zl4 (by omega) hj hL
  unfold p_law_c1
  obtain ⟨k, ra', rd', rx', ry', t0', t1', t2', t3', o', r, ma2, md2, su', my', e1, e2, hv, hS'⟩ := a_register (th := m_thrown) (re := x_noise_told) (wi := x_noise_beyondFloor) (fl := m_floor) (su := m_sum) (my := m_many) (ab := m_above) (be := m_below) (ma := m_marked) (sp := m_spots) (da := m_days) (out := out_f) (rx := x_registered_differences) (ry := x_registered_cells) (t0 := x_tried_across) (t1 := x_tried_down) (t2 := x_tried_differences) (t3 := x_tried_cells) w4 h4 hw hh (xs (zI (j : Int) + 1).toNatClampNeg) hF hG hS
  simp only [pu_gt v1, pu_gt v2, pu_gt v3, pu_gt v4, if01, Option.bind_some, e1, e2, p_Mod_thrown, if_true]
  rw [fin2_l hv]
  exact ⟨_, rfl, rfl, ⟨hF, hG, hS', hC, hf, hr, rfl, rfl, hm, hP, hD⟩⟩
theorem g_c2 (w4 : 4 ≤ w) (h4 : 4 ≤ h) (hw : w ≤ 24) (hh : h ≤ 24) (hN : N = 7 * ((w * h + 1) / 2)) (hL : L ≤ 2562) {j : Nat} (hj : j + 5 ≤ L) (hI : LI w h x_formerValues_f x_laterValues_f x_registered_across x_registered_down x_charts_held x_charts_xs_f x_charts_ys_f x_noise_floor x_noise_told x_noise_beyondFloor x_noise_least_f x_noise_greatest_f x_spots_found x_spots_marked x_spots_spotOf_f x_spots_facts_f x_days_kept x_days_days_f x_days_marks_f x_noise_told x_noise_beyondFloor m_floor m_across m_down m_marked m_spots m_days m_former_f m_later_f m_charts_f m_lows_f m_highs_f m_firsts_f m_changes_f m_dates_f m_kept_f) : ∃ s', p_law_c2 L xs (zI w) (zI h) (zI w) (zI h) (zI (j : Int)) x_formerValues_f x_laterValues_f x_registered_across x_registered_down x_registered_differences x_registered_cells x_tried_across x_tried_down x_tried_differences x_tried_cells x_charts_held x_charts_xs_f x_charts_ys_f x_light_above x_light_below x_noise_floor x_noise_told x_noise_beyondFloor x_noise_least_f x_noise_greatest_f x_spots_joined x_spots_found x_spots_marked x_spots_spotOf_f x_spots_changes_f x_spots_joinedX_f x_spots_joinedY_f x_spots_facts_f x_days_kept x_days_days_f x_days_marks_f x_slope_above x_slope_below m_thrown x_noise_told x_noise_beyondFloor m_floor m_across m_down m_sum m_many m_above m_below m_marked m_spots m_days m_former_f m_later_f m_charts_f m_lows_f m_highs_f m_firsts_f m_changes_f m_dates_f m_kept_f out_f = some (.inl s') ∧ s'.1 = zI (j : Int) + 5 ∧ Good w h s' := by
  obtain ⟨hF, hG, hS, hC, hf, hr, -, -, hm, hP, hD⟩ := hI
  have v1 : vp_in (zI (j : Int) + 1) L := v_at (d := 1) zl1 (by omega) hj hL
  have v2 : vp_in (zI (j : Int) + 2) L := v_at (d := 2) zl2 (by omega) hj hL
  have v3 : vp_in (zI (j : Int) + 3) L := v_at (d := 3) zl3 (by omega) hj hL
  have v4 : vp_in (zI (j : Int) + 4) L := v_at (d := 4) zl4 (by omega) hj hL
  unfold p_law_c2
  obtain ⟨k, o', r, e1, e2, hv⟩ := a_shift (h := h) (w := w) (th := m_thrown) (re := x_noise_told) (wi := x_noise_beyondFloor) (fl := m_floor) (su := m_sum) (my := m_many) (ab := m_above) (be := m_below) (ma := m_marked) (sp := m_spots) (da := m_days) (out := out_f) (rx := x_registered_differences) (ry := x_registered_cells) (xs (zI (j : Int) + 1).toNatClampNeg) hS
  simp only [pu_gt v1, pu_gt v2, pu_gt v3, pu_gt v4, if01, Option.bind_some, e1, e2, p_Mod_thrown, if_true]
  rw [fin2_l hv]
  exact ⟨_, rfl, rfl, ⟨hF, hG, hS, hC, hf, hr, rfl, rfl, hm, hP, hD⟩⟩
theorem g_c3 (w4 : 4 ≤ w) (h4 : 4 ≤ h) (hw : w ≤ 24) (hh : h ≤ 24) (hN : N = 7 * ((w * h + 1) / 2)) (hL : L ≤ 2562) {j : Nat} (hj : j + 5 ≤ L) (hI : LI w h x_formerValues_f x_laterValues_f x_registered_across x_registered_down x_charts_held x_charts_xs_f x_charts_ys_f x_noise_floor x_noise_told x_noise_beyondFloor x_noise_least_f x_noise_greatest_f x_spots_found x_spots_marked x_spots_spotOf_f x_spots_facts_f x_days_kept x_days_days_f x_days_marks_f x_noise_told x_noise_beyondFloor m_floor m_across m_down m_marked m_spots m_days m_former_f m_later_f m_charts_f m_lows_f m_highs_f m_firsts_f m_changes_f m_dates_f m_kept_f) : ∃ s', p_law_c3 L xs (zI w) (zI h) 12 12 (zI w) (zI h) 576 (zI (j : Int)) x_formerValues_f x_laterValues_f x_registered_across x_registered_down x_registered_differences x_registered_cells x_tried_across x_tried_down x_tried_differences x_tried_cells x_charts_held x_charts_xs_f x_charts_ys_f x_light_above x_light_below x_noise_floor x_noise_told x_noise_beyondFloor x_noise_least_f x_noise_greatest_f x_spots_joined x_spots_found x_spots_marked x_spots_spotOf_f x_spots_changes_f x_spots_joinedX_f x_spots_joinedY_f x_spots_facts_f x_days_kept x_days_days_f x_days_marks_f x_slope_above x_slope_below m_thrown x_noise_told x_noise_beyondFloor m_floor m_across m_down m_sum m_many m_above m_below m_marked m_spots m_days m_former_f m_later_f m_charts_f m_lows_f m_highs_f m_firsts_f m_changes_f m_dates_f m_kept_f out_f = some (.inl s') ∧ s'.1 = zI (j : Int) + 5 ∧ Good w h s' := by
  obtain ⟨hF, hG, hS, hC, hf, hr, -, -, hm, hP, hD⟩ := hI
  have v1 : vp_in (zI (j : Int) + 1) L := v_at (d := 1) zl1 (by omega) hj hL
  have v2 : vp_in (zI (j : Int) + 2) L := v_at (d := 2) zl2 (by omega) hj hL
  have v3 : vp_in (zI (j : Int) + 3) L := v_at (d := 3) zl3 (by omega) hj hL
  have v4 : vp_in (zI (j : Int) + 4) L := v_at (d := 4) zl4 (by omega) hj hL
  unfold p_law_c3
  obtain ⟨k, held', xs', ys', o', r, mch', e1, e2, hv, hC'⟩ := a_chart (th := m_thrown) (re := x_noise_told) (wi := x_noise_beyondFloor) (fl := m_floor) (ac := m_across) (dn := m_down) (su := m_sum) (my := m_many) (ab := m_above) (be := m_below) (ma := m_marked) (sp := m_spots) (da := m_days) (out := out_f) hw hh (xs (zI (j : Int) + 1).toNatClampNeg) (xs (zI (j : Int) + 2).toNatClampNeg) (if xs (zI (j : Int) + 3).toNatClampNeg = 0 then (0 : Int32) else 1) if01_in hC
  simp only [pu_gt v1, pu_gt v2, pu_gt v3, pu_gt v4, if01, Option.bind_some, e1, e2, p_Mod_thrown, if_true]
  rw [fin_c hv]
  exact ⟨_, rfl, rfl, ⟨hF, hG, hS, hC', hf, hr, rfl, rfl, hm, hP, hD⟩⟩
theorem g_c4 (w4 : 4 ≤ w) (h4 : 4 ≤ h) (hw : w ≤ 24) (hh : h ≤ 24) (hN : N = 7 * ((w * h + 1) / 2)) (hL : L ≤ 2562) {j : Nat} (hj : j + 5 ≤ L) (hI : LI w h x_formerValues_f x_laterValues_f x_registered_across x_registered_down x_charts_held x_charts_xs_f x_charts_ys_f x_noise_floor x_noise_told x_noise_beyondFloor x_noise_least_f x_noise_greatest_f x_spots_found x_spots_marked x_spots_spotOf_f x_spots_facts_f x_days_kept x_days_days_f x_days_marks_f x_noise_told x_noise_beyondFloor m_floor m_across m_down m_marked m_spots m_days m_former_f m_later_f m_charts_f m_lows_f m_highs_f m_firsts_f m_changes_f m_dates_f m_kept_f) : ∃ s', p_law_c4 L xs (zI w) (zI h) (w * h) (w * h) 12 12 (zI w) (zI h) 576 576 576 (zI (j : Int)) x_formerValues_f x_laterValues_f x_registered_across x_registered_down x_registered_differences x_registered_cells x_tried_across x_tried_down x_tried_differences x_tried_cells x_charts_held x_charts_xs_f x_charts_ys_f x_light_above x_light_below x_noise_floor x_noise_told x_noise_beyondFloor x_noise_least_f x_noise_greatest_f x_spots_joined x_spots_found x_spots_marked x_spots_spotOf_f x_spots_changes_f x_spots_joinedX_f x_spots_joinedY_f x_spots_facts_f x_days_kept x_days_days_f x_days_marks_f x_slope_above x_slope_below m_thrown x_noise_told x_noise_beyondFloor m_floor m_across m_down m_sum m_many m_above m_below m_marked m_spots m_days m_former_f m_later_f m_charts_f m_lows_f m_highs_f m_firsts_f m_changes_f m_dates_f m_kept_f out_f = some (.inl s') ∧ s'.1 = zI (j : Int) + 5 ∧ Good w h s' := by
  obtain ⟨hF, hG, hS, hC, hf, hr, -, -, hm, hP, hD⟩ := hI
  have v1 : vp_in (zI (j : Int) + 1) L := v_at (d := 1) zl1 (by omega) hj hL
  have v2 : vp_in (zI (j : Int) + 2) L := v_at (d := 2) zl2 (by omega) hj hL
  have v3 : vp_in (zI (j : Int) + 3) L := v_at (d := 3) zl3 (by omega) hj hL
  have v4 : vp_in (zI (j : Int) + 4) L := v_at (d := 4) zl4 (by omega) hj hL
  unfold p_law_c4
  obtain ⟨k, la', lb', o', r, ab', be', e1, e2, hv⟩ := a_gain (th := m_thrown) (re := x_noise_told) (wi := x_noise_beyondFloor) (fl := m_floor) (su := m_sum) (my := m_many) (ab := m_above) (be := m_below) (ma := m_marked) (sp := m_spots) (da := m_days) (out := out_f) (rx := x_registered_differences) (ry := x_registered_cells) (la := x_light_above) (lb := x_light_below) hw hh (xs (zI (j : Int) + 1).toNatClampNeg) hF hG hS hC
  simp only [pu_gt v1, pu_gt v2, pu_gt v3, pu_gt v4, if01, Option.bind_some, e1, e2, p_Mod_thrown, if_true]
  rw [fin2_l hv]
  exact ⟨_, rfl, rfl, ⟨hF, hG, hS, hC, hf, hr, rfl, rfl, hm, hP, hD⟩⟩
theorem g_c5 (w4 : 4 ≤ w) (h4 : 4 ≤ h) (hw : w ≤ 24) (hh : h ≤ 24) (hN : N = 7 * ((w * h + 1) / 2)) (hL : L ≤ 2562) {j : Nat} (hj : j + 5 ≤ L) (hI : LI w h x_formerValues_f x_laterValues_f x_registered_across x_registered_down x_charts_held x_charts_xs_f x_charts_ys_f x_noise_floor x_noise_told x_noise_beyondFloor x_noise_least_f x_noise_greatest_f x_spots_found x_spots_marked x_spots_spotOf_f x_spots_facts_f x_days_kept x_days_days_f x_days_marks_f x_noise_told x_noise_beyondFloor m_floor m_across m_down m_marked m_spots m_days m_former_f m_later_f m_charts_f m_lows_f m_highs_f m_firsts_f m_changes_f m_dates_f m_kept_f) : ∃ s', p_law_c5 L xs (zI w) (zI h) (w * h) (w * h) (w * h) (zI w) (zI h) 576 576 576 (zI (j : Int)) x_formerValues_f x_laterValues_f x_registered_across x_registered_down x_registered_differences x_registered_cells x_tried_across x_tried_down x_tried_differences x_tried_cells x_charts_held x_charts_xs_f x_charts_ys_f x_light_above x_light_below x_noise_floor x_noise_told x_noise_beyondFloor x_noise_least_f x_noise_greatest_f x_spots_joined x_spots_found x_spots_marked x_spots_spotOf_f x_spots_changes_f x_spots_joinedX_f x_spots_joinedY_f x_spots_facts_f x_days_kept x_days_days_f x_days_marks_f x_slope_above x_slope_below m_thrown x_noise_told x_noise_beyondFloor m_floor m_across m_down m_sum m_many m_above m_below m_marked m_spots m_days m_former_f m_later_f m_charts_f m_lows_f m_highs_f m_firsts_f m_changes_f m_dates_f m_kept_f out_f = some (.inl s') ∧ s'.1 = zI (j : Int) + 5 ∧ Good w h s' := by
  obtain ⟨hF, hG, hS, hC, hf, hr, -, -, hm, hP, hD⟩ := hI
  have v1 : vp_in (zI (j : Int) + 1) L := v_at (d := 1) zl1 (by omega) hj hL
  have v2 : vp_in (zI (j : Int) + 2) L := v_at (d := 2) zl2 (by omega) hj hL
  have v3 : vp_in (zI (j : Int) + 3) L := v_at (d := 3) zl3 (by omega) hj hL
  have v4 : vp_in (zI (j : Int) + 4) L := v_at (d := 4) zl4 (by omega) hj hL
  unfold p_law_c5
  obtain ⟨k, t1, c1, le', gr', o', r, lo', hi', e1, e2, hv, hr'⟩ := a_repeat (th := m_thrown) (ac := m_across) (dn := m_down) (su := m_sum) (my := m_many) (ab := m_above) (be := m_below) (ma := m_marked) (sp := m_spots) (da := m_days) (out := out_f) (to' := x_noise_told) (be' := x_noise_beyondFloor) hw hh (xs (zI (j : Int) + 1).toNatClampNeg) (xs (zI (j : Int) + 2).toNatClampNeg) (xs (zI (j : Int) + 3).toNatClampNeg) hF hf hr
  simp only [pu_gt v1, pu_gt v2, pu_gt v3, pu_gt v4, if01, Option.bind_some, e1, e2, p_Mod_thrown, if_true]
  rw [fin2_l hv]
  exact ⟨_, rfl, rfl, ⟨hF, hG, hS, hC, hf, hr', rfl, rfl, hm, hP, hD⟩⟩
theorem g_c6 (w4 : 4 ≤ w) (h4 : 4 ≤ h) (hw : w ≤ 24) (hh : h ≤ 24) (hN : N = 7 * ((w * h + 1) / 2)) (hL : L ≤ 2562) {j : Nat} (hj : j + 5 ≤ L) (hI : LI w h x_formerValues_f x_laterValues_f x_registered_across x_registered_down x_charts_held x_charts_xs_f x_charts_ys_f x_noise_floor x_noise_told x_noise_beyondFloor x_noise_least_f x_noise_greatest_f x_spots_found x_spots_marked x_spots_spotOf_f x_spots_facts_f x_days_kept x_days_days_f x_days_marks_f x_noise_told x_noise_beyondFloor m_floor m_across m_down m_marked m_spots m_days m_former_f m_later_f m_charts_f m_lows_f m_highs_f m_firsts_f m_changes_f m_dates_f m_kept_f) : ∃ s', p_law_c6 L xs (zI w) (zI h) (zI w) (zI h) (zI (j : Int)) x_formerValues_f x_laterValues_f x_registered_across x_registered_down x_registered_differences x_registered_cells x_tried_across x_tried_down x_tried_differences x_tried_cells x_charts_held x_charts_xs_f x_charts_ys_f x_light_above x_light_below x_noise_floor x_noise_told x_noise_beyondFloor x_noise_least_f x_noise_greatest_f x_spots_joined x_spots_found x_spots_marked x_spots_spotOf_f x_spots_changes_f x_spots_joinedX_f x_spots_joinedY_f x_spots_facts_f x_days_kept x_days_days_f x_days_marks_f x_slope_above x_slope_below m_thrown x_noise_told x_noise_beyondFloor m_floor m_across m_down m_sum m_many m_above m_below m_marked m_spots m_days m_former_f m_later_f m_charts_f m_lows_f m_highs_f m_firsts_f m_changes_f m_dates_f m_kept_f out_f = some (.inl s') ∧ s'.1 = zI (j : Int) + 5 ∧ Good w h s' := by
  obtain ⟨hF, hG, hS, hC, hf, hr, -, -, hm, hP, hD⟩ := hI
  have v1 : vp_in (zI (j : Int) + 1) L := v_at (d := 1) zl1 (by omega) hj hL
  have v2 : vp_in (zI (j : Int) + 2) L := v_at (d := 2) zl2 (by omega) hj hL
  have v3 : vp_in (zI (j : Int) + 3) L := v_at (d := 3) zl3 (by omega) hj hL
  have v4 : vp_in (zI (j : Int) + 4) L := v_at (d := 4) zl4 (by omega) hj hL
  unfold p_law_c6
  obtain ⟨k, f1, o', r, mf1, e1, e2, hv, hf'⟩ := a_floor (h := h) (w := w) (th := m_thrown) (re := x_noise_told) (wi := x_noise_beyondFloor) (ac := m_across) (dn := m_down) (su := m_sum) (my := m_many) (ab := m_above) (be := m_below) (ma := m_marked) (sp := m_spots) (da := m_days) (out := out_f) (to' := x_noise_told) (be' := x_noise_beyondFloor) (xs (zI (j : Int) + 1).toNatClampNeg) hf
  simp only [pu_gt v1, pu_gt v2, pu_gt v3, pu_gt v4, if01, Option.bind_some, e1, e2, p_Mod_thrown, if_true]
  rw [fin2_l hv]
  exact ⟨_, rfl, rfl, ⟨hF, hG, hS, hC, hf', hr, rfl, rfl, hm, hP, hD⟩⟩
theorem g_c7 (w4 : 4 ≤ w) (h4 : 4 ≤ h) (hw : w ≤ 24) (hh : h ≤ 24) (hN : N = 7 * ((w * h + 1) / 2)) (hL : L ≤ 2562) {j : Nat} (hj : j + 5 ≤ L) (hI : LI w h x_formerValues_f x_laterValues_f x_registered_across x_registered_down x_charts_held x_charts_xs_f x_charts_ys_f x_noise_floor x_noise_told x_noise_beyondFloor x_noise_least_f x_noise_greatest_f x_spots_found x_spots_marked x_spots_spotOf_f x_spots_facts_f x_days_kept x_days_days_f x_days_marks_f x_noise_told x_noise_beyondFloor m_floor m_across m_down m_marked m_spots m_days m_former_f m_later_f m_charts_f m_lows_f m_highs_f m_firsts_f m_changes_f m_dates_f m_kept_f) : ∃ s', p_law_c7 L xs (zI w) (zI h) (w * h) (w * h) (w * h) (zI w) (zI h) 576 576 576 (zI (j : Int)) x_formerValues_f x_laterValues_f x_registered_across x_registered_down x_registered_differences x_registered_cells x_tried_across x_tried_down x_tried_differences x_tried_cells x_charts_held x_charts_xs_f x_charts_ys_f x_light_above x_light_below x_noise_floor x_noise_told x_noise_beyondFloor x_noise_least_f x_noise_greatest_f x_spots_joined x_spots_found x_spots_marked x_spots_spotOf_f x_spots_changes_f x_spots_joinedX_f x_spots_joinedY_f x_spots_facts_f x_days_kept x_days_days_f x_days_marks_f x_slope_above x_slope_below m_thrown x_noise_told x_noise_beyondFloor m_floor m_across m_down m_sum m_many m_above m_below m_marked m_spots m_days m_former_f m_later_f m_charts_f m_lows_f m_highs_f m_firsts_f m_changes_f m_dates_f m_kept_f out_f = some (.inl s') ∧ s'.1 = zI (j : Int) + 5 ∧ Good w h s' := by
  obtain ⟨hF, hG, hS, hC, hf, hr, -, -, hm, hP, hD⟩ := hI
  have v1 : vp_in (zI (j : Int) + 1) L := v_at (d := 1) zl1 (by omega) hj hL
  have v2 : vp_in (zI (j : Int) + 2) L := v_at (d := 2) zl2 (by omega) hj hL
  have v3 : vp_in (zI (j : Int) + 3) L := v_at (d := 3) zl3 (by omega) hj hL
  have v4 : vp_in (zI (j : Int) + 4) L := v_at (d := 4) zl4 (by omega) hj hL
  unfold p_law_c7
  obtain ⟨k, o', r, e1, e2, hv⟩ := a_bound (th := m_thrown) (re := x_noise_told) (wi := x_noise_beyondFloor) (ac := m_across) (dn := m_down) (su := m_sum) (my := m_many) (ab := m_above) (be := m_below) (ma := m_marked) (sp := m_spots) (da := m_days) (out := out_f) (to' := x_noise_told) (be' := x_noise_beyondFloor) hw hh (xs (zI (j : Int) + 1).toNatClampNeg) (xs (zI (j : Int) + 2).toNatClampNeg) hF hf hr
  simp only [pu_gt v1, pu_gt v2, pu_gt v3, pu_gt v4, if01, Option.bind_some, e1, e2, p_Mod_thrown, if_true]
  rw [fin2_l hv]
  exact ⟨_, rfl, rfl, ⟨hF, hG, hS, hC, hf, hr, rfl, rfl, hm, hP, hD⟩⟩
theorem g_c8 (w4 : 4 ≤ w) (h4 : 4 ≤ h) (hw : w ≤ 24) (hh : h ≤ 24) (hN : N = 7 * ((w * h + 1) / 2)) (hL : L ≤ 2562) {j : Nat} (hj : j + 5 ≤ L) (hI : LI w h x_formerValues_f x_laterValues_f x_registered_across x_registered_down x_charts_held x_charts_xs_f x_charts_ys_f x_noise_floor x_noise_told x_noise_beyondFloor x_noise_least_f x_noise_greatest_f x_spots_found x_spots_marked x_spots_spotOf_f x_spots_facts_f x_days_kept x_days_days_f x_days_marks_f x_noise_told x_noise_beyondFloor m_floor m_across m_down m_marked m_spots m_days m_former_f m_later_f m_charts_f m_lows_f m_highs_f m_firsts_f m_changes_f m_dates_f m_kept_f) : ∃ s', p_law_c8 L xs (zI w) (zI h) (w * h) (w * h) 12 12 (zI w) (zI h) 576 576 576 (zI (j : Int)) x_formerValues_f x_laterValues_f x_registered_across x_registered_down x_registered_differences x_registered_cells x_tried_across x_tried_down x_tried_differences x_tried_cells x_charts_held x_charts_xs_f x_charts_ys_f x_light_above x_light_below x_noise_floor x_noise_told x_noise_beyondFloor x_noise_least_f x_noise_greatest_f x_spots_joined x_spots_found x_spots_marked x_spots_spotOf_f x_spots_changes_f x_spots_joinedX_f x_spots_joinedY_f x_spots_facts_f x_days_kept x_days_days_f x_days_marks_f x_slope_above x_slope_below m_thrown x_noise_told x_noise_beyondFloor m_floor m_across m_down m_sum m_many m_above m_below m_marked m_spots m_days m_former_f m_later_f m_charts_f m_lows_f m_highs_f m_firsts_f m_changes_f m_dates_f m_kept_f out_f = some (.inl s') ∧ s'.1 = zI (j : Int) + 5 ∧ Good w h s' := by
  obtain ⟨hF, hG, hS, hC, hf, hr, -, -, hm, hP, hD⟩ := hI
  have v1 : vp_in (zI (j : Int) + 1) L := v_at (d := 1) zl1 (by omega) hj hL
  have v2 : vp_in (zI (j : Int) + 2) L := v_at (d := 2) zl2 (by omega) hj hL
  have v3 : vp_in (zI (j : Int) + 3) L := v_at (d := 3) zl3 (by omega) hj hL
  have v4 : vp_in (zI (j : Int) + 4) L := v_at (d := 4) zl4 (by omega) hj hL
  unfold p_law_c8
  obtain ⟨k, la', lb', o', r, ab', be', e1, e2, hv⟩ := a_change (th := m_thrown) (re := x_noise_told) (wi := x_noise_beyondFloor) (fl := m_floor) (su := m_sum) (my := m_many) (ab := m_above) (be := m_below) (ma := m_marked) (sp := m_spots) (da := m_days) (out := out_f) (rx := x_registered_differences) (ry := x_registered_cells) (la := x_light_above) (lb := x_light_below) hw hh (xs (zI (j : Int) + 1).toNatClampNeg) (xs (zI (j : Int) + 2).toNatClampNeg) hF hG hS hC
  simp only [pu_gt v1, pu_gt v2, pu_gt v3, pu_gt v4, if01, Option.bind_some, e1, e2, p_Mod_thrown, if_true]
  rw [fin2_l hv]
  exact ⟨_, rfl, rfl, ⟨hF, hG, hS, hC, hf, hr, rfl, rfl, hm, hP, hD⟩⟩
theorem g_c9 (w4 : 4 ≤ w) (h4 : 4 ≤ h) (hw : w ≤ 24) (hh : h ≤ 24) (hN : N = 7 * ((w * h + 1) / 2)) (hL : L ≤ 2562) {j : Nat} (hj : j + 5 ≤ L) (hI : LI w h x_formerValues_f x_laterValues_f x_registered_across x_registered_down x_charts_held x_charts_xs_f x_charts_ys_f x_noise_floor x_noise_told x_noise_beyondFloor x_noise_least_f x_noise_greatest_f x_spots_found x_spots_marked x_spots_spotOf_f x_spots_facts_f x_days_kept x_days_days_f x_days_marks_f x_noise_told x_noise_beyondFloor m_floor m_across m_down m_marked m_spots m_days m_former_f m_later_f m_charts_f m_lows_f m_highs_f m_firsts_f m_changes_f m_dates_f m_kept_f) : ∃ s', p_law_c9 (zI w) (zI h) (w * h) (w * h) 12 12 (w * h) (w * h) (zI w) (zI h) (w * h) (w * h) (w * h) (w * h) N (zI w) (zI h) 576 576 576 576 576 576 576 (zI (j : Int)) x_formerValues_f x_laterValues_f x_registered_across x_registered_down x_registered_differences x_registered_cells x_tried_across x_tried_down x_tried_differences x_tried_cells x_charts_held x_charts_xs_f x_charts_ys_f x_light_above x_light_below x_noise_floor x_noise_told x_noise_beyondFloor x_noise_least_f x_noise_greatest_f x_spots_joined x_spots_found x_spots_marked x_spots_spotOf_f x_spots_changes_f x_spots_joinedX_f x_spots_joinedY_f x_spots_facts_f x_days_kept x_days_days_f x_days_marks_f x_slope_above x_slope_below m_thrown x_noise_told x_noise_beyondFloor m_floor m_across m_down m_sum m_many m_above m_below m_marked m_spots m_days m_former_f m_later_f m_charts_f m_lows_f m_highs_f m_firsts_f m_changes_f m_dates_f m_kept_f out_f = some (.inl s') ∧ s'.1 = zI (j : Int) + 5 ∧ Good w h s' := by
  obtain ⟨hF, hG, hS, hC, hf, hr, -, -, hm, hP, hD⟩ := hI
  have v1 : vp_in (zI (j : Int) + 1) L := v_at (d := 1) zl1 (by omega) hj hL
  have v2 : vp_in (zI (j : Int) + 2) L := v_at (d := 2) zl2 (by omega) hj hL
  have v3 : vp_in (zI (j : Int) + 3) L := v_at (d := 3) zl3 (by omega) hj hL
  have v4 : vp_in (zI (j : Int) + 4) L := v_at (d := 4) zl4 (by omega) hj hL
  unfold p_law_c9
  obtain ⟨r, la', lb', jn', mk', s', ch', jx', jy', ft', ab', be', fs', mcg', e1, e2, hm', hP'⟩ := a_run (th := m_thrown) (re := x_noise_told) (wi := x_noise_beyondFloor) (su := m_sum) (my := m_many) (ab := m_above) (be := m_below) (ma := m_marked) (sp := m_spots) (da := m_days) (rx := x_registered_differences) (ry := x_registered_cells) (la := x_light_above) (lb := x_light_below) (to' := x_noise_told) (be' := x_noise_beyondFloor) (sj := x_spots_joined) (sf := x_spots_found) (smk := x_spots_marked) (s := x_spots_spotOf_f) (ch := x_spots_changes_f) (jx := x_spots_joinedX_f) (jy := x_spots_joinedY_f) (ft := x_spots_facts_f) (fs := m_firsts_f) (mcg := m_changes_f) hw hh hN hF hG hS hC hf hr
  simp only [pu_gt v1, pu_gt v2, pu_gt v3, pu_gt v4, if01, Option.bind_some, e1, e2, p_Mod_thrown, if_true]
  skip
  exact ⟨_, rfl, rfl, ⟨hF, hG, hS, hC, hf, hr, rfl, rfl, hm', hP', hD⟩⟩
theorem g_c10 (w4 : 4 ≤ w) (h4 : 4 ≤ h) (hw : w ≤ 24) (hh : h ≤ 24) (hN : N = 7 * ((w * h + 1) / 2)) (hL : L ≤ 2562) {j : Nat} (hj : j + 5 ≤ L) (hI : LI w h x_formerValues_f x_laterValues_f x_registered_across x_registered_down x_charts_held x_charts_xs_f x_charts_ys_f x_noise_floor x_noise_told x_noise_beyondFloor x_noise_least_f x_noise_greatest_f x_spots_found x_spots_marked x_spots_spotOf_f x_spots_facts_f x_days_kept x_days_days_f x_days_marks_f x_noise_told x_noise_beyondFloor m_floor m_across m_down m_marked m_spots m_days m_former_f m_later_f m_charts_f m_lows_f m_highs_f m_firsts_f m_changes_f m_dates_f m_kept_f) : ∃ s', p_law_c10 L xs (zI w) (zI h) (zI w) (zI h) N (zI w) (zI h) 576 576 (zI (j : Int)) x_formerValues_f x_laterValues_f x_registered_across x_registered_down x_registered_differences x_registered_cells x_tried_across x_tried_down x_tried_differences x_tried_cells x_charts_held x_charts_xs_f x_charts_ys_f x_light_above x_light_below x_noise_floor x_noise_told x_noise_beyondFloor x_noise_least_f x_noise_greatest_f x_spots_joined x_spots_found x_spots_marked x_spots_spotOf_f x_spots_changes_f x_spots_joinedX_f x_spots_joinedY_f x_spots_facts_f x_days_kept x_days_days_f x_days_marks_f x_slope_above x_slope_below m_thrown x_noise_told x_noise_beyondFloor m_floor m_across m_down m_sum m_many m_above m_below m_marked m_spots m_days m_former_f m_later_f m_charts_f m_lows_f m_highs_f m_firsts_f m_changes_f m_dates_f m_kept_f out_f = some (.inl s') ∧ s'.1 = zI (j : Int) + 5 ∧ Good w h s' := by
  obtain ⟨hF, hG, hS, hC, hf, hr, -, -, hm, hP, hD⟩ := hI
  have v1 : vp_in (zI (j : Int) + 1) L := v_at (d := 1) zl1 (by omega) hj hL
  have v2 : vp_in (zI (j : Int) + 2) L := v_at (d := 2) zl2 (by omega) hj hL
  have v3 : vp_in (zI (j : Int) + 3) L := v_at (d := 3) zl3 (by omega) hj hL
  have v4 : vp_in (zI (j : Int) + 4) L := v_at (d := 4) zl4 (by omega) hj hL
  unfold p_law_c10
  obtain ⟨k, o', r, e1, e2, hv⟩ := a_spot (th := m_thrown) (re := x_noise_told) (wi := x_noise_beyondFloor) (fl := m_floor) (ac := m_across) (dn := m_down) (su := m_sum) (my := m_many) (ab := m_above) (be := m_below) (ma := m_marked) (da := m_days) (out := out_f) (sj := x_spots_joined) (smk := x_spots_marked) (sw := zI w) (sh := zI h) hw hh (xs (zI (j : Int) + 1).toNatClampNeg) (xs (zI (j : Int) + 2).toNatClampNeg) hN hP
  simp only [pu_gt v1, pu_gt v2, pu_gt v3, pu_gt v4, if01, Option.bind_some, e1, e2, p_Mod_thrown, if_true]
  rw [fin2_l hv]
  exact ⟨_, rfl, rfl, ⟨hF, hG, hS, hC, hf, hr, rfl, rfl, hm, hP, hD⟩⟩
theorem g_c11 (w4 : 4 ≤ w) (h4 : 4 ≤ h) (hw : w ≤ 24) (hh : h ≤ 24) (hN : N = 7 * ((w * h + 1) / 2)) (hL : L ≤ 2562) {j : Nat} (hj : j + 5 ≤ L) (hI : LI w h x_formerValues_f x_laterValues_f x_registered_across x_registered_down x_charts_held x_charts_xs_f x_charts_ys_f x_noise_floor x_noise_told x_noise_beyondFloor x_noise_least_f x_noise_greatest_f x_spots_found x_spots_marked x_spots_spotOf_f x_spots_facts_f x_days_kept x_days_days_f x_days_marks_f x_noise_told x_noise_beyondFloor m_floor m_across m_down m_marked m_spots m_days m_former_f m_later_f m_charts_f m_lows_f m_highs_f m_firsts_f m_changes_f m_dates_f m_kept_f) : ∃ s', p_law_c11 L xs (zI w) (zI h) (zI w) (zI h) (w * h) (zI w) (zI h) 576 (zI (j : Int)) x_formerValues_f x_laterValues_f x_registered_across x_registered_down x_registered_differences x_registered_cells x_tried_across x_tried_down x_tried_differences x_tried_cells x_charts_held x_charts_xs_f x_charts_ys_f x_light_above x_light_below x_noise_floor x_noise_told x_noise_beyondFloor x_noise_least_f x_noise_greatest_f x_spots_joined x_spots_found x_spots_marked x_spots_spotOf_f x_spots_changes_f x_spots_joinedX_f x_spots_joinedY_f x_spots_facts_f x_days_kept x_days_days_f x_days_marks_f x_slope_above x_slope_below m_thrown x_noise_told x_noise_beyondFloor m_floor m_across m_down m_sum m_many m_above m_below m_marked m_spots m_days m_former_f m_later_f m_charts_f m_lows_f m_highs_f m_firsts_f m_changes_f m_dates_f m_kept_f out_f = some (.inl s') ∧ s'.1 = zI (j : Int) + 5 ∧ Good w h s' := by
  obtain ⟨hF, hG, hS, hC, hf, hr, -, -, hm, hP, hD⟩ := hI
  have v1 : vp_in (zI (j : Int) + 1) L := v_at (d := 1) zl1 (by omega) hj hL
  have v2 : vp_in (zI (j : Int) + 2) L := v_at (d := 2) zl2 (by omega) hj hL
  have v3 : vp_in (zI (j : Int) + 3) L := v_at (d := 3) zl3 (by omega) hj hL
  have v4 : vp_in (zI (j : Int) + 4) L := v_at (d := 4) zl4 (by omega) hj hL
  unfold p_law_c11
  obtain ⟨k, o', r, e1, e2, hv⟩ := a_map (th := m_thrown) (re := x_noise_told) (wi := x_noise_beyondFloor) (fl := m_floor) (ac := m_across) (dn := m_down) (su := m_sum) (my := m_many) (ab := m_above) (be := m_below) (ma := m_marked) (da := m_days) (out := out_f) (sj := x_spots_joined) (smk := x_spots_marked) hw hh (xs (zI (j : Int) + 1).toNatClampNeg) (xs (zI (j : Int) + 2).toNatClampNeg) hP
  simp only [pu_gt v1, pu_gt v2, pu_gt v3, pu_gt v4, if01, Option.bind_some, e1, e2, p_Mod_thrown, if_true]
  rw [fin2_l hv]
  exact ⟨_, rfl, rfl, ⟨hF, hG, hS, hC, hf, hr, rfl, rfl, hm, hP, hD⟩⟩
theorem g_c12 (w4 : 4 ≤ w) (h4 : 4 ≤ h) (hw : w ≤ 24) (hh : h ≤ 24) (hN : N = 7 * ((w * h + 1) / 2)) (hL : L ≤ 2562) {j : Nat} (hj : j + 5 ≤ L) (hI : LI w h x_formerValues_f x_laterValues_f x_registered_across x_registered_down x_charts_held x_charts_xs_f x_charts_ys_f x_noise_floor x_noise_told x_noise_beyondFloor x_noise_least_f x_noise_greatest_f x_spots_found x_spots_marked x_spots_spotOf_f x_spots_facts_f x_days_kept x_days_days_f x_days_marks_f x_noise_told x_noise_beyondFloor m_floor m_across m_down m_marked m_spots m_days m_former_f m_later_f m_charts_f m_lows_f m_highs_f m_firsts_f m_changes_f m_dates_f m_kept_f) : ∃ s', p_law_c12 L xs (zI w) (zI h) (zI w) (zI h) N (zI w) (zI h) 576 576 (zI (j : Int)) x_formerValues_f x_laterValues_f x_registered_across x_registered_down x_registered_differences x_registered_cells x_tried_across x_tried_down x_tried_differences x_tried_cells x_charts_held x_charts_xs_f x_charts_ys_f x_light_above x_light_below x_noise_floor x_noise_told x_noise_beyondFloor x_noise_least_f x_noise_greatest_f x_spots_joined x_spots_found x_spots_marked x_spots_spotOf_f x_spots_changes_f x_spots_joinedX_f x_spots_joinedY_f x_spots_facts_f x_days_kept x_days_days_f x_days_marks_f x_slope_above x_slope_below m_thrown x_noise_told x_noise_beyondFloor m_floor m_across m_down m_sum m_many m_above m_below m_marked m_spots m_days m_former_f m_later_f m_charts_f m_lows_f m_highs_f m_firsts_f m_changes_f m_dates_f m_kept_f out_f = some (.inl s') ∧ s'.1 = zI (j : Int) + 5 ∧ Good w h s' := by
  obtain ⟨hF, hG, hS, hC, hf, hr, -, -, hm, hP, hD⟩ := hI
  have v1 : vp_in (zI (j : Int) + 1) L := v_at (d := 1) zl1 (by omega) hj hL
  have v2 : vp_in (zI (j : Int) + 2) L := v_at (d := 2) zl2 (by omega) hj hL
  have v3 : vp_in (zI (j : Int) + 3) L := v_at (d := 3) zl3 (by omega) hj hL
  have v4 : vp_in (zI (j : Int) + 4) L := v_at (d := 4) zl4 (by omega) hj hL
  unfold p_law_c12
  obtain ⟨k, o', r, e1, e2, hv⟩ := a_alarm (th := m_thrown) (re := x_noise_told) (wi := x_noise_beyondFloor) (fl := m_floor) (ac := m_across) (dn := m_down) (su := m_sum) (my := m_many) (ab := m_above) (be := m_below) (ma := m_marked) (da := m_days) (out := out_f) (sj := x_spots_joined) (smk := x_spots_marked) (sw := zI w) (sh := zI h) hw hh (xs (zI (j : Int) + 1).toNatClampNeg) (xs (zI (j : Int) + 2).toNatClampNeg) (xs (zI (j : Int) + 3).toNatClampNeg) hN hP
  simp only [pu_gt v1, pu_gt v2, pu_gt v3, pu_gt v4, if01, Option.bind_some, e1, e2, p_Mod_thrown, if_true]
  rw [fin2_l hv]
  exact ⟨_, rfl, rfl, ⟨hF, hG, hS, hC, hf, hr, rfl, rfl, hm, hP, hD⟩⟩
theorem g_c13 (w4 : 4 ≤ w) (h4 : 4 ≤ h) (hw : w ≤ 24) (hh : h ≤ 24) (hN : N = 7 * ((w * h + 1) / 2)) (hL : L ≤ 2562) {j : Nat} (hj : j + 5 ≤ L) (hI : LI w h x_formerValues_f x_laterValues_f x_registered_across x_registered_down x_charts_held x_charts_xs_f x_charts_ys_f x_noise_floor x_noise_told x_noise_beyondFloor x_noise_least_f x_noise_greatest_f x_spots_found x_spots_marked x_spots_spotOf_f x_spots_facts_f x_days_kept x_days_days_f x_days_marks_f x_noise_told x_noise_beyondFloor m_floor m_across m_down m_marked m_spots m_days m_former_f m_later_f m_charts_f m_lows_f m_highs_f m_firsts_f m_changes_f m_dates_f m_kept_f) : ∃ s', p_law_c13 (zI w) (zI h) (zI w) (zI h) (zI (j : Int)) x_formerValues_f x_laterValues_f x_registered_across x_registered_down x_registered_differences x_registered_cells x_tried_across x_tried_down x_tried_differences x_tried_cells x_charts_held x_charts_xs_f x_charts_ys_f x_light_above x_light_below x_noise_floor x_noise_told x_noise_beyondFloor x_noise_least_f x_noise_greatest_f x_spots_joined x_spots_found x_spots_marked x_spots_spotOf_f x_spots_changes_f x_spots_joinedX_f x_spots_joinedY_f x_spots_facts_f x_days_kept x_days_days_f x_days_marks_f x_slope_above x_slope_below m_thrown x_noise_told x_noise_beyondFloor m_floor m_across m_down m_sum m_many m_above m_below m_marked m_spots m_days m_former_f m_later_f m_charts_f m_lows_f m_highs_f m_firsts_f m_changes_f m_dates_f m_kept_f out_f = some (.inl s') ∧ s'.1 = zI (j : Int) + 5 ∧ Good w h s' := by
  obtain ⟨hF, hG, hS, hC, hf, hr, -, -, hm, hP, hD⟩ := hI
  have v1 : vp_in (zI (j : Int) + 1) L := v_at (d := 1) zl1 (by omega) hj hL
  have v2 : vp_in (zI (j : Int) + 2) L := v_at (d := 2) zl2 (by omega) hj hL
  have v3 : vp_in (zI (j : Int) + 3) L := v_at (d := 3) zl3 (by omega) hj hL
  have v4 : vp_in (zI (j : Int) + 4) L := v_at (d := 4) zl4 (by omega) hj hL
  unfold p_law_c13
  simp only [p_Pic_falseOnes, p_Mod_falseOnes, Option.bind_some, if_true]
  skip
  exact ⟨_, rfl, rfl, ⟨hF, hG, hS, hC, hf, hr, rfl, rfl, hm, hP, hD⟩⟩
theorem g_c14 (w4 : 4 ≤ w) (h4 : 4 ≤ h) (hw : w ≤ 24) (hh : h ≤ 24) (hN : N = 7 * ((w * h + 1) / 2)) (hL : L ≤ 2562) {j : Nat} (hj : j + 5 ≤ L) (hI : LI w h x_formerValues_f x_laterValues_f x_registered_across x_registered_down x_charts_held x_charts_xs_f x_charts_ys_f x_noise_floor x_noise_told x_noise_beyondFloor x_noise_least_f x_noise_greatest_f x_spots_found x_spots_marked x_spots_spotOf_f x_spots_facts_f x_days_kept x_days_days_f x_days_marks_f x_noise_told x_noise_beyondFloor m_floor m_across m_down m_marked m_spots m_days m_former_f m_later_f m_charts_f m_lows_f m_highs_f m_firsts_f m_changes_f m_dates_f m_kept_f) : ∃ s', p_law_c14 L xs (zI w) (zI h) (zI w) (zI h) 30 30 (zI w) (zI h) 30 30 (zI (j : Int)) x_formerValues_f x_laterValues_f x_registered_across x_registered_down x_registered_differences x_registered_cells x_tried_across x_tried_down x_tried_differences x_tried_cells x_charts_held x_charts_xs_f x_charts_ys_f x_light_above x_light_below x_noise_floor x_noise_told x_noise_beyondFloor x_noise_least_f x_noise_greatest_f x_spots_joined x_spots_found x_spots_marked x_spots_spotOf_f x_spots_changes_f x_spots_joinedX_f x_spots_joinedY_f x_spots_facts_f x_days_kept x_days_days_f x_days_marks_f x_slope_above x_slope_below m_thrown x_noise_told x_noise_beyondFloor m_floor m_across m_down m_sum m_many m_above m_below m_marked m_spots m_days m_former_f m_later_f m_charts_f m_lows_f m_highs_f m_firsts_f m_changes_f m_dates_f m_kept_f out_f = some (.inl s') ∧ s'.1 = zI (j : Int) + 5 ∧ Good w h s' := by
  obtain ⟨hF, hG, hS, hC, hf, hr, -, -, hm, hP, hD⟩ := hI
  have v1 : vp_in (zI (j : Int) + 1) L := v_at (d := 1) zl1 (by omega) hj hL
  have v2 : vp_in (zI (j : Int) + 2) L := v_at (d := 2) zl2 (by omega) hj hL
  have v3 : vp_in (zI (j : Int) + 3) L := v_at (d := 3) zl3 (by omega) hj hL
  have v4 : vp_in (zI (j : Int) + 4) L := v_at (d := 4) zl4 (by omega) hj hL
  unfold p_law_c14
  obtain ⟨k, kept', dd', dm', o', r, mdays', mdt', mkp', e1, e2, hv, hD'⟩ := a_day (h := h) (w := w) (th := m_thrown) (re := x_noise_told) (wi := x_noise_beyondFloor) (fl := m_floor) (ac := m_across) (dn := m_down) (su := m_sum) (my := m_many) (ab := m_above) (be := m_below) (sp := m_spots) (out := out_f) (sw := zI w) (sh := zI h) (sj := x_spots_joined) (sf := x_spots_found) (xs (zI (j : Int) + 1).toNatClampNeg) hm hD
  simp only [pu_gt v1, pu_gt v2, pu_gt v3, pu_gt v4, if01, Option.bind_some, e1, e2, p_Mod_thrown, if_true]
  rw [fin2_l hv]
  exact ⟨_, rfl, rfl, ⟨hF, hG, hS, hC, hf, hr, rfl, rfl, hm, hP, hD'⟩⟩
theorem g_c15 (w4 : 4 ≤ w) (h4 : 4 ≤ h) (hw : w ≤ 24) (hh : h ≤ 24) (hN : N = 7 * ((w * h + 1) / 2)) (hL : L ≤ 2562) {j : Nat} (hj : j + 5 ≤ L) (hI : LI w h x_formerValues_f x_laterValues_f x_registered_across x_registered_down x_charts_held x_charts_xs_f x_charts_ys_f x_noise_floor x_noise_told x_noise_beyondFloor x_noise_least_f x_noise_greatest_f x_spots_found x_spots_marked x_spots_spotOf_f x_spots_facts_f x_days_kept x_days_days_f x_days_marks_f x_noise_told x_noise_beyondFloor m_floor m_across m_down m_marked m_spots m_days m_former_f m_later_f m_charts_f m_lows_f m_highs_f m_firsts_f m_changes_f m_dates_f m_kept_f) : ∃ s', p_law_c15 L xs (zI w) (zI h) 30 30 (zI w) (zI h) 30 30 (zI (j : Int)) x_formerValues_f x_laterValues_f x_registered_across x_registered_down x_registered_differences x_registered_cells x_tried_across x_tried_down x_tried_differences x_tried_cells x_charts_held x_charts_xs_f x_charts_ys_f x_light_above x_light_below x_noise_floor x_noise_told x_noise_beyondFloor x_noise_least_f x_noise_greatest_f x_spots_joined x_spots_found x_spots_marked x_spots_spotOf_f x_spots_changes_f x_spots_joinedX_f x_spots_joinedY_f x_spots_facts_f x_days_kept x_days_days_f x_days_marks_f x_slope_above x_slope_below m_thrown x_noise_told x_noise_beyondFloor m_floor m_across m_down m_sum m_many m_above m_below m_marked m_spots m_days m_former_f m_later_f m_charts_f m_lows_f m_highs_f m_firsts_f m_changes_f m_dates_f m_kept_f out_f = some (.inl s') ∧ s'.1 = zI (j : Int) + 5 ∧ Good w h s' := by
  obtain ⟨hF, hG, hS, hC, hf, hr, -, -, hm, hP, hD⟩ := hI
  have v1 : vp_in (zI (j : Int) + 1) L := v_at (d := 1) zl1 (by omega) hj hL
  have v2 : vp_in (zI (j : Int) + 2) L := v_at (d := 2) zl2 (by omega) hj hL
  have v3 : vp_in (zI (j : Int) + 3) L := v_at (d := 3) zl3 (by omega) hj hL
  have v4 : vp_in (zI (j : Int) + 4) L := v_at (d := 4) zl4 (by omega) hj hL
  unfold p_law_c15
  obtain ⟨k, sa', sb', o', r, e1, e2, hv⟩ := a_growth (h := h) (w := w) (th := m_thrown) (re := x_noise_told) (wi := x_noise_beyondFloor) (fl := m_floor) (ac := m_across) (dn := m_down) (su := m_sum) (my := m_many) (ab := m_above) (be := m_below) (ma := m_marked) (sp := m_spots) (out := out_f) (sa := x_slope_above) (sb := x_slope_below) (xs (zI (j : Int) + 1).toNatClampNeg) hD
  simp only [pu_gt v1, pu_gt v2, pu_gt v3, pu_gt v4, if01, Option.bind_some, e1, e2, p_Mod_thrown, if_true]
  rw [fin2_J hv]
  exact ⟨_, rfl, rfl, ⟨hF, hG, hS, hC, hf, hr, rfl, rfl, hm, hP, hD⟩⟩
theorem g_c16 (w4 : 4 ≤ w) (h4 : 4 ≤ h) (hw : w ≤ 24) (hh : h ≤ 24) (hN : N = 7 * ((w * h + 1) / 2)) (hL : L ≤ 2562) {j : Nat} (hj : j + 5 ≤ L) (hI : LI w h x_formerValues_f x_laterValues_f x_registered_across x_registered_down x_charts_held x_charts_xs_f x_charts_ys_f x_noise_floor x_noise_told x_noise_beyondFloor x_noise_least_f x_noise_greatest_f x_spots_found x_spots_marked x_spots_spotOf_f x_spots_facts_f x_days_kept x_days_days_f x_days_marks_f x_noise_told x_noise_beyondFloor m_floor m_across m_down m_marked m_spots m_days m_former_f m_later_f m_charts_f m_lows_f m_highs_f m_firsts_f m_changes_f m_dates_f m_kept_f) : ∃ s', p_law_c16 L xs (zI w) (zI h) (zI w) (zI h) (zI w) (zI h) 576 (zI (j : Int)) x_formerValues_f x_laterValues_f x_registered_across x_registered_down x_registered_differences x_registered_cells x_tried_across x_tried_down x_tried_differences x_tried_cells x_charts_held x_charts_xs_f x_charts_ys_f x_light_above x_light_below x_noise_floor x_noise_told x_noise_beyondFloor x_noise_least_f x_noise_greatest_f x_spots_joined x_spots_found x_spots_marked x_spots_spotOf_f x_spots_changes_f x_spots_joinedX_f x_spots_joinedY_f x_spots_facts_f x_days_kept x_days_days_f x_days_marks_f x_slope_above x_slope_below m_thrown x_noise_told x_noise_beyondFloor m_floor m_across m_down m_sum m_many m_above m_below m_marked m_spots m_days m_former_f m_later_f m_charts_f m_lows_f m_highs_f m_firsts_f m_changes_f m_dates_f m_kept_f out_f = some (.inl s') ∧ s'.1 = zI (j : Int) + 5 ∧ Good w h s' := by
  obtain ⟨hF, hG, hS, hC, hf, hr, -, -, hm, hP, hD⟩ := hI
  have v1 : vp_in (zI (j : Int) + 1) L := v_at (d := 1) zl1 (by omega) hj hL
  have v2 : vp_in (zI (j : Int) + 2) L := v_at (d := 2) zl2 (by omega) hj hL
  have v3 : vp_in (zI (j : Int) + 3) L := v_at (d := 3) zl3 (by omega) hj hL
  have v4 : vp_in (zI (j : Int) + 4) L := v_at (d := 4) zl4 (by omega) hj hL
  unfold p_law_c16
  obtain ⟨k, o', r, e1, e2, hv⟩ := a_count (th := m_thrown) (wi := x_noise_beyondFloor) (fl := m_floor) (ac := m_across) (dn := m_down) (su := m_sum) (my := m_many) (ab := m_above) (be := m_below) (out := out_f) (sw := zI w) (sh := zI h) (to' := x_noise_told) (be' := x_noise_beyondFloor) (f0 := x_noise_floor) (sj := x_spots_joined) (xs (zI (j : Int) + 1).toNatClampNeg) hC hm (ISp_eq hP) hD
  simp only [pu_gt v1, pu_gt v2, pu_gt v3, pu_gt v4, if01, Option.bind_some, e1, e2, p_Mod_thrown, if_true]
  rw [fin2_l hv]
  exact ⟨_, rfl, rfl, ⟨hF, hG, hS, hC, hf, hr, rfl, rfl, hm, hP, hD⟩⟩
end AG2
section AG3
variable {w h L N : Nat} {xs : Nat → Int32}
theorem g_step (w4 : 4 ≤ w) (h4 : 4 ≤ h) (hw : w ≤ 24) (hh : h ≤ 24) (hN : N = 7 * ((w * h + 1) / 2)) (hL : L ≤ 2562) {j : Nat} (hj : j ≤ 2562) : ∀ (s : Int32 × (Nat → Int32) × (Nat → Int32) × Int32 × Int32 × Int32 × Int32 × Int32 × Int32 × Int32 × Int32 × Int32 × (Nat → Int32) × (Nat → Int32) × Int64 × Int64 × Int32 × Int32 × Int32 × (Nat → Int32) × (Nat → Int32) × Int32 × Int32 × Int32 × (Nat → Int32) × (Nat → Int32) × (Nat → Int32) × (Nat → Int32) × (Nat → Int32) × Int32 × (Nat → Int32) × (Nat → Int32) × Int64 × Int64 × Int32 × Int32 × Int32 × Int32 × Int32 × Int32 × Int64 × Int64 × Int64 × Int64 × Int32 × Int32 × Int32 × (Nat → Int32) × (Nat → Int32) × (Nat → Int32) × (Nat → Int32) × (Nat → Int32) × (Nat → Int32) × (Nat → Int32) × (Nat → Int32) × (Nat → Int32) × (Nat → Int64)), s.1 = zI (j : Int) → Good w h s → (j + 5 ≤ L ∧ ∃ s', p_law_step L xs (zI w) (zI h) (w * h) (w * h) 12 12 (w * h) (w * h) (zI w) (zI h) (w * h) (w * h) (w * h) (w * h) N 30 30 (zI w) (zI h) 576 576 576 576 576 576 576 30 30 s = some (.inl s') ∧ s'.1 = zI (j : Int) + 5 ∧ Good w h s') ∨ p_law_step L xs (zI w) (zI h) (w * h) (w * h) 12 12 (w * h) (w * h) (zI w) (zI h) (w * h) (w * h) (w * h) (w * h) N 30 30 (zI w) (zI h) 576 576 576 576 576 576 576 30 30 s = some (.inr 1) := by
  rintro ⟨i, x_formerValues_f, x_laterValues_f, x_registered_across, x_registered_down, x_registered_differences, x_registered_cells, x_tried_across, x_tried_down, x_tried_differences, x_tried_cells, x_charts_held, x_charts_xs_f, x_charts_ys_f, x_light_above, x_light_below, x_noise_floor, x_noise_told, x_noise_beyondFloor, x_noise_least_f, x_noise_greatest_f, x_spots_joined, x_spots_found, x_spots_marked, x_spots_spotOf_f, x_spots_changes_f, x_spots_joinedX_f, x_spots_joinedY_f, x_spots_facts_f, x_days_kept, x_days_days_f, x_days_marks_f, x_slope_above, x_slope_below, m_thrown, m_repeats, m_wide, m_floor, m_across, m_down, m_sum, m_many, m_above, m_below, m_marked, m_spots, m_days, m_former_f, m_later_f, m_charts_f, m_lows_f, m_highs_f, m_firsts_f, m_changes_f, m_dates_f, m_kept_f, out_f⟩ hi hI
  have hi : i = zI (j : Int) := hi
  subst hi
  have hI : LI w h x_formerValues_f x_laterValues_f x_registered_across x_registered_down x_charts_held x_charts_xs_f x_charts_ys_f x_noise_floor x_noise_told x_noise_beyondFloor x_noise_least_f x_noise_greatest_f x_spots_found x_spots_marked x_spots_spotOf_f x_spots_facts_f x_days_kept x_days_days_f x_days_marks_f m_repeats m_wide m_floor m_across m_down m_marked m_spots m_days m_former_f m_later_f m_charts_f m_lows_f m_highs_f m_firsts_f m_changes_f m_dates_f m_kept_f := hI
  have q1 : m_repeats = x_noise_told := hI.2.2.2.2.2.2.1
  have q2 : m_wide = x_noise_beyondFloor := hI.2.2.2.2.2.2.2.1
  subst q1 q2
  unfold p_law_step
  dsimp only
  have eL : Int32.ofNat L - 5 = zI ((L : Int) - 5) := by rw [show Int32.ofNat L = zI (L : Int) from zI_nat L, show (5 : Int32) = zI 5 by decide, zI_sub]
  rw [eL]
  by_cases hlt : (L : Int) - 5 < j
  · rw [if_pos ((zI_lt (by omega) (by omega) (by omega) (by omega)).mpr hlt)]
    exact Or.inr rfl
  · have hj5 : j + 5 ≤ L := by omega
    rw [if_neg (fun z => hlt ((zI_lt (by omega) (by omega) (by omega) (by omega)).mp z)), pu_gt ((zn_in (by omega)).mpr (by omega))]
    refine Or.inl ⟨hj5, ?_⟩
    by_cases c0 : (xs (zI (j : Int)).toNatClampNeg &&& 31) = 0
    · rw [if_pos c0]
      exact g_c0 w4 h4 hw hh hN hL hj5 hI
    rw [if_neg c0]
    by_cases c1 : (xs (zI (j : Int)).toNatClampNeg &&& 31) = 1
    · rw [if_pos c1]
      exact g_c1 w4 h4 hw hh hN hL hj5 hI
    rw [if_neg c1]
    by_cases c2 : (xs (zI (j : Int)).toNatClampNeg &&& 31) = 2
    · rw [if_pos c2]
      exact g_c2 w4 h4 hw hh hN hL hj5 hI
    rw [if_neg c2]
    by_cases c3 : (xs (zI (j : Int)).toNatClampNeg &&& 31) = 3
    · rw [if_pos c3]
      exact g_c3 w4 h4 hw hh hN hL hj5 hI
    rw [if_neg c3]
    by_cases c4 : (xs (zI (j : Int)).toNatClampNeg &&& 31) = 4
    · rw [if_pos c4]
      exact g_c4 w4 h4 hw hh hN hL hj5 hI
    rw [if_neg c4]
    by_cases c5 : (xs (zI (j : Int)).toNatClampNeg &&& 31) = 5
    · rw [if_pos c5]
      exact g_c5 w4 h4 hw hh hN hL hj5 hI
    rw [if_neg c5]
    by_cases c6 : (xs (zI (j : Int)).toNatClampNeg &&& 31) = 6
    · rw [if_pos c6]
      exact g_c6 w4 h4 hw hh hN hL hj5 hI
    rw [if_neg c6]
    by_cases c7 : (xs (zI (j : Int)).toNatClampNeg &&& 31) = 7
    · rw [if_pos c7]
      exact g_c7 w4 h4 hw hh hN hL hj5 hI
    rw [if_neg c7]
    by_cases c8 : (xs (zI (j : Int)).toNatClampNeg &&& 31) = 8
    · rw [if_pos c8]
      exact g_c8 w4 h4 hw hh hN hL hj5 hI
    rw [if_neg c8]
    by_cases c9 : (xs (zI (j : Int)).toNatClampNeg &&& 31) = 9
    · rw [if_pos c9]
      exact g_c9 w4 h4 hw hh hN hL hj5 hI
    rw [if_neg c9]
    by_cases c10 : (xs (zI (j : Int)).toNatClampNeg &&& 31) = 10
    · rw [if_pos c10]
      exact g_c10 w4 h4 hw hh hN hL hj5 hI
    rw [if_neg c10]
    by_cases c11 : (xs (zI (j : Int)).toNatClampNeg &&& 31) = 11
    · rw [if_pos c11]
      exact g_c11 w4 h4 hw hh hN hL hj5 hI
    rw [if_neg c11]
    by_cases c12 : (xs (zI (j : Int)).toNatClampNeg &&& 31) = 12
    · rw [if_pos c12]
      exact g_c12 w4 h4 hw hh hN hL hj5 hI
    rw [if_neg c12]
    by_cases c13 : (xs (zI (j : Int)).toNatClampNeg &&& 31) = 13
    · rw [if_pos c13]
      exact g_c13 w4 h4 hw hh hN hL hj5 hI
    rw [if_neg c13]
    by_cases c14 : (xs (zI (j : Int)).toNatClampNeg &&& 31) = 14
    · rw [if_pos c14]
      exact g_c14 w4 h4 hw hh hN hL hj5 hI
    rw [if_neg c14]
    by_cases c15 : (xs (zI (j : Int)).toNatClampNeg &&& 31) = 15
    · rw [if_pos c15]
      exact g_c15 w4 h4 hw hh hN hL hj5 hI
    rw [if_neg c15]
    by_cases c16 : (xs (zI (j : Int)).toNatClampNeg &&& 31) = 16
    · rw [if_pos c16]
      exact g_c16 w4 h4 hw hh hN hL hj5 hI
    rw [if_neg c16]
    exact ⟨_, rfl, rfl, hI⟩
theorem g_loop (w4 : 4 ≤ w) (h4 : 4 ≤ h) (hw : w ≤ 24) (hh : h ≤ 24) (hN : N = 7 * ((w * h + 1) / 2)) (hL : L ≤ 2562) (s : Int32 × (Nat → Int32) × (Nat → Int32) × Int32 × Int32 × Int32 × Int32 × Int32 × Int32 × Int32 × Int32 × Int32 × (Nat → Int32) × (Nat → Int32) × Int64 × Int64 × Int32 × Int32 × Int32 × (Nat → Int32) × (Nat → Int32) × Int32 × Int32 × Int32 × (Nat → Int32) × (Nat → Int32) × (Nat → Int32) × (Nat → Int32) × (Nat → Int32) × Int32 × (Nat → Int32) × (Nat → Int32) × Int64 × Int64 × Int32 × Int32 × Int32 × Int32 × Int32 × Int32 × Int64 × Int64 × Int64 × Int64 × Int32 × Int32 × Int32 × (Nat → Int32) × (Nat → Int32) × (Nat → Int32) × (Nat → Int32) × (Nat → Int32) × (Nat → Int32) × (Nat → Int32) × (Nat → Int32) × (Nat → Int32) × (Nat → Int64)) (h1 : s.1 = 2) (hg : Good w h s) : pu_it (p_law_step L xs (zI w) (zI h) (w * h) (w * h) 12 12 (w * h) (w * h) (zI w) (zI h) (w * h) (w * h) (w * h) (w * h) N 30 30 (zI w) (zI h) 576 576 576 576 576 576 576 30 30) 600 s = some 1 := by
  obtain ⟨e, k1, rfl⟩ := pu_itr (f := p_law_step L xs (zI w) (zI h) (w * h) (w * h) 12 12 (w * h) (w * h) (zI w) (zI h) (w * h) (w * h) (w * h) (w * h) N 30 30 (zI w) (zI h) 576 576 576 576 576 576 576 30 30) (fun s => ∃ j : Nat, j ≤ 2562 ∧ s.1 = zI (j : Int) ∧ Good w h s) (fun e => e = 1) (fun s => (2567 - s.1.toNatClampNeg) / 5) (by
    rintro s ⟨j, hj, h1, hg⟩
    rcases g_step w4 h4 hw hh hN hL hj s h1 hg with ⟨hj5, s', a1, a2, a3⟩ | a1
    · have e5 : s'.1 = zI ((j + 5 : Nat) : Int) := by rw [a2, show (5 : Int32) = zI 5 by decide, zI_add]; congr 1
      refine Or.inl ⟨s', a1, ⟨j + 5, by omega, e5, a3⟩, ?_⟩
      try dsimp only
      rw [h1, e5, zn_cl (by omega), zn_cl (by omega)]
      omega
    · exact Or.inr ⟨1, a1, rfl⟩) 600 s ⟨2, by omega, h1, hg⟩ (by
    try dsimp only
    rw [h1]
    decide)
  exact k1
end AG3
