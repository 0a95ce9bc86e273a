/-! PURE SIDE: spots: class and reference hold the same ones -/
def ISp (w h : Nat) (fnd msp : Int32) (s ft fs ch : Nat → Int32) : Prop :=
  ∃ (dk : Nat → Prop) (Cg : Nat → Int), (∀ p, dk p → p < 576 ∧ gr w h p) ∧ fnd = zI (cn dk 576 : Int) ∧ msp = zI (cn dk 576 : Int) ∧ JS w h dk 576 s ∧ FO w h dk Cg 576 ft ∧ MS dk fs ∧ ∀ p, dk p → ch p = zI (Cg p)
theorem chs {P : Nat → Int → Prop} {D : Nat → Prop} (h : ∀ p, D p → ∃ c, P p c) : ∃ g : Nat → Int, ∀ p, D p → P p (g p) :=
  ⟨fun p => @dite _ (D p) (Classical.propDecidable _) (fun hd => Classical.choose (h p hd)) (fun _ => 0), fun p hp => by
    dsimp only
    rw [dif_pos hp]
    exact Classical.choose_spec (h p hp)⟩
section AP
variable {th re wi fl ac dn ma sp da : Int32} {su my ab be : Int64} {w h : Nat}
theorem i_num (hw : w ≤ 24) (hh : h ≤ 24) {fnd msp : Int32} {s ft fs ch : Nat → Int32} (hI : ISp w h fnd msp s ft fs ch) :
    ∃ F : Nat, F ≤ (w * h + 1) / 2 ∧ fnd = zI (F : Int) ∧ msp = zI (F : Int) ∧ ∀ i j : Nat, i < F → j < 7 → ∀ th re wi fl ac dn ma sp da su my ab be, p_Mod_numbers (zI i) (zI j) th (zI w) (zI h) re wi fl ac dn su my ab be ma sp da 576 fs 576 ch = some (ft (i * 7 + j)) := by
  obtain ⟨dk, Cg, hd, rfl, rfl, hJ, hO, hS, hG⟩ := hI
  have hb := cn_b hd
  have hwh := g_wh hw hh
  refine ⟨cn dk 576, hb, rfl, rfl, fun i j hi hj th re wi fl ac dn ma sp da su my ab be => ?_⟩
  obtain ⟨r, r1, r2, r3⟩ := cn_k hi
  obtain ⟨g, g1, g2⟩ := @n_num th re wi fl ac dn ma sp da su my ab be w h dk fs hw hh hd hS r i r2 r3 (by omega) ch Cg hG
  rw [g2 j hj]
  have := SF_u g1 (hO r r1 r2) j hj
  rw [this, r3]
theorem a_spot (hw : w ≤ 24) (hh : h ≤ 24) (a2 a3 : Int32) {sw sh sj fnd smk msp : Int32} {s ft fs ch : Nat → Int32} {out : Nat → Int64} {N : Nat} (hN : N = 7 * ((w * h + 1) / 2)) (hI : ISp w h fnd msp s ft fs ch) :
    ∃ (k : Int32) (out' : Nat → Int64) (r : Int32), p_Law_spot a2 a3 (zI w) (zI h) sw sh sj fnd smk N ft 1 out = some (k, out') ∧ p_Mod_spot a2 a3 th (zI w) (zI h) re wi fl ac dn su my ab be ma msp da 576 fs 576 ch = some (r, k) ∧ (k = 0 → out' 0 = r.toInt64) := by
  obtain ⟨z, rfl, z1, z2⟩ := zI_of a2
  obtain ⟨v, rfl, v1, v2⟩ := zI_of a3
  obtain ⟨F, F1, rfl, rfl, hnum⟩ := i_num hw hh hI
  have hwh := g_wh hw hh
  have c1 : zI z < 0 ↔ z < 0 := by rw [zl0]; exact zI_lt z1 z2 (by omega) (by omega)
  have c2 : zI z < zI (F : Int) ↔ z < F := zI_lt z1 z2 (by omega) (by omega)
  have c3 : zI v < 0 ↔ v < 0 := by rw [zl0]; exact zI_lt v1 v2 (by omega) (by omega)
  have c4 : zI v < 7 ↔ v < 7 := by rw [zl7]; exact zI_lt v1 v2 (by omega) (by omega)
  obtain ⟨t1, f1⟩ := q_within (lo := 0) (hi := (F : Int) - 1) z1 z2 (by omega) (by omega) (by omega) (by omega)
  obtain ⟨t2, f2⟩ := q_within (lo := 0) (hi := 6) v1 v2 (by omega) (by omega) (by omega) (by omega)
  rw [← zl0] at t1 f1
  rw [← zl0, ← zl6] at t2 f2
  have eF : zI (F : Int) - 1 = zI ((F : Int) - 1) := by rw [zl1, zI_sub]
  unfold p_Law_spot p_Pic_spot p_Mod_spot
  rw [eF]
  simp only [c1, c2, c3, c4]
  by_cases hz : 0 ≤ z ∧ z < F
  · obtain ⟨i, rfl⟩ : ∃ i : Nat, z = i := ⟨z.toNat, by omega⟩
    rw [t1 (by omega), if_neg (by omega), if_pos (by omega)]
    by_cases hv : 0 ≤ v ∧ v < 7
    · obtain ⟨j, rfl⟩ : ∃ j : Nat, v = j := ⟨v.toNat, by omega⟩
      rw [t2 (by omega), if_neg (by omega), if_pos (by omega)]
      simp only [Option.bind_some, one0, if_false, gs_ok]
      unfold p_Spots_factOf
      have e7 : zI (i : Int) * 7 + zI (j : Int) = zI ((i * 7 + j : Nat) : Int) := by rw [zl7, zI_mul, zI_add]; congr 1
      rw [e7, pu_gt ((zn_in (by omega)).mpr (by omega)), zn_cl (by omega), hnum i j (by omega) (by omega)]
      simp only [Option.bind_some, pu_gt in01]
      exact ⟨_, _, _, rfl, rfl, fun _ => up0 _ _⟩
    · rw [f2 (by omega)]
      simp only [Option.bind_some, one0, if_false, if_true, gs_1]
      by_cases hv0 : v < 0
      · rw [if_pos hv0]
        exact ⟨1, out, 0, rfl, rfl, fun q => absurd q (by decide)⟩
      · rw [if_neg hv0, if_neg (by omega)]
        exact ⟨1, out, 0, rfl, rfl, fun q => absurd q (by decide)⟩
  · rw [f1 (by omega)]
    simp only [Option.bind_some, if_true, gs_1]
    by_cases hz0 : z < 0
    · rw [if_pos hz0]
      exact ⟨1, out, 0, rfl, rfl, fun q => absurd q (by decide)⟩
    · rw [if_neg hz0, if_neg (by omega)]
      exact ⟨1, out, 0, rfl, rfl, fun q => absurd q (by decide)⟩
theorem a_map (hw : w ≤ 24) (hh : h ≤ 24) (a2 a3 : Int32) {sj fnd smk msp : Int32} {s ft fs ch : Nat → Int32} {out : Nat → Int64} (hI : ISp w h fnd msp s ft fs ch) :
    ∃ (k : Int32) (out' : Nat → Int64) (r : Int32), p_Law_map a2 a3 (zI w) (zI h) (zI w) (zI h) sj fnd smk (w * h) s 1 out = some (k, out') ∧ p_Mod_map a2 a3 th (zI w) (zI h) re wi fl ac dn su my ab be ma msp da 576 fs = some (r, k) ∧ (k = 0 → out' 0 = r.toInt64) := by
  obtain ⟨a, rfl, a1, b1⟩ := zI_of a2
  obtain ⟨b, rfl, a2, b2⟩ := zI_of a3
  obtain ⟨c1, c2⟩ := q_needCell hw hh a1 b1 a2 b2
  obtain ⟨e1, e2⟩ := @q_isCell th re wi fl ac dn ma msp da su my ab be w h hw hh a b a1 b1 a2 b2
  obtain ⟨dk, Cg, hd, rfl, rfl, hJ, hO, hS, hG⟩ := hI
  unfold p_Law_map p_Pic_map p_Mod_map
  by_cases hi : inG w h a b
  · rw [c1 hi, e1 hi]
    simp only [Option.bind_some, gs_ok, one0, if_false]
    obtain ⟨x, y, rfl, rfl, hx, hy⟩ := g_xy hi
    obtain ⟨t, -⟩ := @q_spotAt w h hw hh (x : Int) (y : Int) (by omega) (by omega) (by omega) (by omega) sj (zI (cn dk 576 : Int)) smk s
    have hg : gr w h (24 * y + x) := by unfold gr; omega
    rw [t (24 * y + x) hg (by omega) (by omega), zl24, z_pm, pu_gt ((zn_in (by omega)).mpr (by omega))]
    obtain ⟨v, z, k1, k2, k3⟩ := n_map hw hh hd hS hx hy
    rw [k1]
    have ev : sv w s (24 * y + x) = v := by
      by_cases hdk : dk (24 * y + x)
      · obtain ⟨r, r1, r2, r3⟩ := Rt_ex (dk := dk) (24 * y + x) _ (Nat.le_refl _) hdk
        rw [k3 r r1 hdk r2, (hJ.2 r _ r1 hdk r2).1 (by omega)]
      · rw [k2 hdk, hJ.1 _ hg hdk]
    simp only [Option.bind_some, pu_gt in01, ev]
    exact ⟨_, _, _, rfl, rfl, fun _ => up0 _ _⟩
  · rw [c2 hi, e2 hi]
    simp only [Option.bind_some, q_goes]
    exact ⟨1, out, 0, rfl, rfl, fun q => absurd q (by decide)⟩
/-- an alarming spot -/
def Al (a2 a3 : Int32) (ft : Nat → Int32) (i : Nat) : Prop := a2 < ft (i * 7 + 1) ∨ (¬ ft (i * 7 + 6) = -1 ∧ ¬ ft (i * 7 + 6) < a3)
theorem al_cls {a2 a3 sw sh sj smk : Int32} {ft : Nat → Int32} {N F : Nat} (hF : F * 7 ≤ N) (hN : N ≤ 3000) {k0 : Nat} (hk : k0 ≤ F) :
    ∃ e, pu_loop (p_Pic_alarm_L1 a2 a3 sw sh sj (zI F) smk N ft) (zI k0) = some e ∧ (((∃ z, e = .inl z) ∧ ∀ i, k0 ≤ i → i < F → ¬ Al a2 a3 ft i) ∨ ∃ i : Nat, e = .inr (.inr (zI (i : Int))) ∧ k0 ≤ i ∧ i < F ∧ Al a2 a3 ft i ∧ ∀ i', k0 ≤ i' → i' < i → ¬ Al a2 a3 ft i') := by
  refine pu_for (f := p_Pic_alarm_L1 a2 a3 sw sh sj (zI F) smk N ft) (σ := Unit) (fun k _ => zI (k : Int)) (fun k _ => k0 ≤ k ∧ ∀ i, k0 ≤ i → i < k → ¬ Al a2 a3 ft i) _ F (fun k _ hkF hI => ?_) (fun _ hI => ?_) hk (s0 := ()) ⟨by omega, fun i a b => by omega⟩
  · unfold p_Pic_alarm_L1 p_Spots_isAlarming p_Spots_factOf
    have e6 : zI (k : Int) * 7 + 6 = zI ((k * 7 + 6 : Nat) : Int) := by rw [zl7, zl6, zI_mul, zI_add]; congr 1
    have e1 : zI (k : Int) * 7 + 1 = zI ((k * 7 + 1 : Nat) : Int) := by rw [zl7, zl1, zI_mul, zI_add]; congr 1
    rw [if_neg (by rw [zn_le (by omega) (by omega)]; omega), e6, e1, pu_gt ((zn_in (by omega)).mpr (by omega)), pu_gt ((zn_in (by omega)).mpr (by omega)), zn_cl (by omega), zn_cl (by omega)]
    simp only [Option.bind_some, zI_s]
    by_cases hA : Al a2 a3 ft k
    · refine Or.inr ⟨_, ?_, Or.inr ⟨k, rfl, hI.1, hkF, hA, hI.2⟩⟩
      by_cases h1 : a2 < ft (k * 7 + 1)
      · rw [if_pos h1]
        simp only [Option.bind_some, one0, if_false]
      · have h2 := hA.resolve_left h1
        rw [if_neg h1, if_neg h2.1, if_neg h2.2]
        simp only [Option.bind_some, one0, if_false]
    · refine Or.inl ⟨(), ?_, by omega, fun i a b => ?_⟩
      · rw [if_neg (fun z => hA (Or.inl z))]
        by_cases h2 : ft (k * 7 + 6) = -1
        · rw [if_pos h2]
          simp only [Option.bind_some, if_true]
        · rw [if_neg h2]
          by_cases h3 : ft (k * 7 + 6) < a3
          · rw [if_pos h3]
            simp only [Option.bind_some, if_true]
          · exact absurd (Or.inr ⟨h2, h3⟩) hA
      · by_cases ei : i = k
        · subst ei; exact hA
        · exact hI.2 i a (by omega)
  · unfold p_Pic_alarm_L1
    rw [if_pos (by rw [zn_le (by omega) (by omega)]; omega)]
    exact ⟨_, rfl, Or.inl ⟨⟨_, rfl⟩, hI.2⟩⟩
theorem al_mod {a2 a3 : Int32} {ft fs ch : Nat → Int32} {F : Nat} (hF : F ≤ 3000) (hnum : ∀ i j : Nat, i < F → j < 7 → ∀ th re wi fl ac dn ma sp da su my ab be, p_Mod_numbers (zI i) (zI j) th (zI w) (zI h) re wi fl ac dn su my ab be ma sp da 576 fs 576 ch = some (ft (i * 7 + j))) {k0 : Nat} (hk : k0 ≤ F) :
    ∃ e, pu_loop (p_Mod_alarm_L3 a2 a3 (zI w) (zI h) re wi fl ac dn su my ab be ma (zI F) da 576 fs 576 ch 0) (zI k0) = some e ∧ (((∃ z, e = .inl z) ∧ ∀ i, k0 ≤ i → i < F → ¬ Al a2 a3 ft i) ∨ ∃ i : Nat, e = .inr (zI (i : Int), 0) ∧ k0 ≤ i ∧ i < F ∧ Al a2 a3 ft i ∧ ∀ i', k0 ≤ i' → i' < i → ¬ Al a2 a3 ft i') := by
  refine pu_for (f := p_Mod_alarm_L3 a2 a3 (zI w) (zI h) re wi fl ac dn su my ab be ma (zI F) da 576 fs 576 ch 0) (σ := Unit) (fun k _ => zI (k : Int)) (fun k _ => k0 ≤ k ∧ ∀ i, k0 ≤ i → i < k → ¬ Al a2 a3 ft i) _ F (fun k _ hkF hI => ?_) (fun _ hI => ?_) hk (s0 := ()) ⟨by omega, fun i a b => by omega⟩
  · unfold p_Mod_alarm_L3
    have n6 := hnum k 6 hkF (by omega) 0 re wi fl ac dn ma (zI F) da su my ab be
    have n1 := hnum k 1 hkF (by omega) 0 re wi fl ac dn ma (zI F) da su my ab be
    rw [if_neg (by rw [zn_le (by omega) (by omega)]; omega), show (6 : Int32) = zI ((6 : Nat) : Int) by decide, n6]
    simp only [Option.bind_some]
    rw [show p_Mod_numbers (zI (k : Int)) 1 0 (zI w) (zI h) re wi fl ac dn su my ab be ma (zI F) da 576 fs 576 ch = some (ft (k * 7 + 1)) from n1]
    simp only [Option.bind_some, zI_s]
    by_cases hA : Al a2 a3 ft k
    · refine Or.inr ⟨_, ?_, Or.inr ⟨k, rfl, hI.1, hkF, hA, hI.2⟩⟩
      by_cases h1 : a2 < ft (k * 7 + 1)
      · rw [if_pos h1]
      · have h2 := hA.resolve_left h1
        rw [if_neg h1, if_neg h2.1, if_neg h2.2]
    · refine Or.inl ⟨(), ?_, by omega, fun i a b => ?_⟩
      · rw [if_neg (fun z => hA (Or.inl z))]
        by_cases h2 : ft (k * 7 + 6) = -1
        · rw [if_pos h2]
        · rw [if_neg h2]
          by_cases h3 : ft (k * 7 + 6) < a3
          · rw [if_pos h3]
          · exact absurd (Or.inr ⟨h2, h3⟩) hA
      · by_cases ei : i = k
        · subst ei; exact hA
        · exact hI.2 i a (by omega)
  · unfold p_Mod_alarm_L3
    rw [if_pos (by rw [zn_le (by omega) (by omega)]; omega)]
    exact ⟨_, rfl, Or.inl ⟨⟨_, rfl⟩, hI.2⟩⟩
theorem a_alarm (hw : w ≤ 24) (hh : h ≤ 24) (a2 a3 a4 : Int32) {sw sh sj fnd smk msp : Int32} {s ft fs ch : Nat → Int32} {out : Nat → Int64} {N : Nat} (hN : N = 7 * ((w * h + 1) / 2)) (hI : ISp w h fnd msp s ft fs ch) :
    ∃ (k : Int32) (out' : Nat → Int64) (r : Int32), p_Law_alarm a2 a3 a4 (zI w) (zI h) sw sh sj fnd smk N ft 1 out = some (k, out') ∧ p_Mod_alarm a2 a3 a4 th (zI w) (zI h) re wi fl ac dn su my ab be ma msp da 576 fs 576 ch = some (r, k) ∧ (k = 0 → out' 0 = r.toInt64) := by
  obtain ⟨z, rfl, z1, z2⟩ := zI_of a2
  obtain ⟨F, F1, rfl, rfl, hnum⟩ := i_num hw hh hI
  have hwh := g_wh hw hh
  have c1 : zI z < -1 ↔ z < -1 := by rw [zlm1]; exact zI_lt z1 z2 (by omega) (by omega)
  have c2 : zI z < zI (F : Int) ↔ z < F := zI_lt z1 z2 (by omega) (by omega)
  obtain ⟨t1, f1⟩ := q_within (lo := -1) (hi := (F : Int) - 1) z1 z2 (by omega) (by omega) (by omega) (by omega)
  rw [← zlm1] at t1 f1
  have eF : zI (F : Int) - 1 = zI ((F : Int) - 1) := by rw [zl1, zI_sub]
  unfold p_Law_alarm p_Pic_alarm p_Mod_alarm
  rw [eF]
  simp only [c1, c2]
  by_cases hz : -1 ≤ z ∧ z < F
  · have ez : zI z + 1 = zI (((z + 1).toNat : Nat) : Int) := by rw [zl1, zI_add]; congr 1; omega
    rw [t1 (by omega), if_neg (by omega), if_pos (by omega), ez]
    simp only [Option.bind_some, one0, if_false, gs_ok]
    obtain ⟨e, k1, k2⟩ := al_cls (a2 := a3) (a3 := a4) (sw := sw) (sh := sh) (sj := sj) (smk := smk) (ft := ft) (N := N) (F := F) (by omega) (by omega) (k0 := (z + 1).toNat) (by omega)
    obtain ⟨e', m1, m2⟩ := al_mod (a2 := a3) (a3 := a4) (ft := ft) (re := re) (wi := wi) (fl := fl) (ac := ac) (dn := dn) (su := su) (my := my) (ab := ab) (be := be) (ma := ma) (da := da) (by omega) hnum (k0 := (z + 1).toNat) (by omega)
    rw [k1, m1]
    simp only [Option.bind_some]
    rcases k2 with ⟨⟨u, rfl⟩, k2⟩ | ⟨i, rfl, i1, i2, i3, i4⟩
    · rcases m2 with ⟨⟨u', rfl⟩, m2⟩ | ⟨i', rfl, j1, j2, j3, j4⟩
      · simp only [Option.bind_some, pu_gt in01]
        exact ⟨_, _, _, rfl, rfl, fun _ => up0 _ _⟩
      · exact absurd j3 (k2 i' j1 j2)
    · rcases m2 with ⟨⟨u', rfl⟩, m2⟩ | ⟨i', rfl, j1, j2, j3, j4⟩
      · exact absurd i3 (m2 i i1 i2)
      · have : i = i' := by
          by_cases h1 : i < i'
          · exact absurd i3 (j4 i i1 h1)
          · by_cases h2 : i' < i
            · exact absurd j3 (i4 i' j1 h2)
            · omega
        subst this
        simp only [Option.bind_some, pu_gt in01]
        exact ⟨_, _, _, rfl, rfl, fun _ => up0 _ _⟩
  · rw [f1 (by omega)]
    simp only [Option.bind_some, if_true, gs_1]
    by_cases hz0 : z < -1
    · rw [if_pos hz0]
      exact ⟨1, out, 0, rfl, rfl, fun q => absurd q (by decide)⟩
    · rw [if_neg hz0, if_neg (by omega)]
      exact ⟨1, out, 0, rfl, rfl, fun q => absurd q (by decide)⟩
end AP
