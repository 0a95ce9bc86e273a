/-! PURE SIDE: days -/
def IDy (kept : Int32) (dd dm : Nat → Int32) (mdays : Int32) (mdt mkp : Nat → Int32) : Prop := ∃ n : Nat, n ≤ 30 ∧ kept = zI n ∧ mdays = zI n ∧ ∀ j, j < n → ∃ d v : Int, 0 ≤ d ∧ d ≤ 10000 ∧ 0 ≤ v ∧ v ≤ 576 ∧ dd j = zI d ∧ mdt j = zI d ∧ dm j = zI v ∧ mkp j = zI v
def IMk (mk mmk : Int32) : Prop := ∃ v : Int, 0 ≤ v ∧ v ≤ 576 ∧ mk = zI v ∧ mmk = zI v
theorem zl30 : (30 : Int32) = zI 30 := by decide
theorem zl10000 : (10000 : Int32) = zI 10000 := by decide
section AD
variable {th re wi fl ac dn ma sp da : Int32} {su my ab be : Int64} {w h : Nat}
/-- may the day z follow: on both sides -/
theorem d_can {n : Nat} (hn : n ≤ 30) {z : Int} (z1 : -2147483648 ≤ z) (z2 : z ≤ 2147483647) {dd mdt : Nat → Int32} (hd : n ≠ 0 → ∃ d : Int, 0 ≤ d ∧ d ≤ 10000 ∧ dd (n - 1) = zI d ∧ mdt (n - 1) = zI d) :
    ∃ a b c : Int32, (c = 0 ∨ c = 1) ∧ (c = 1 → 0 ≤ z ∧ z ≤ 10000) ∧ p_Days_canFollow (zI z) (zI n) 30 dd = some c ∧ (if zI (n : Int) = 0 then some 1 else pu_gd (vp_in (zI n - 1) 30) (if zI z ≤ mdt (zI n - 1).toNatClampNeg then some 0 else some 1)) = some a ∧ p_Mod_within (zI z) 0 10000 = some b ∧ (if b = 0 then some 0 else if a = 0 then some 0 else some 1) = some c := by
  obtain ⟨f1, f2⟩ := q_within (lo := 0) (hi := 10000) z1 z2 (by omega) (by omega) (by omega) (by omega)
  rw [← zl0, ← zl10000] at f1 f2
  have c1 : zI (n : Int) ≤ 0 ↔ (n : Int) ≤ 0 := by rw [zl0]; exact zI_le (by omega) (by omega) (by omega) (by omega)
  have c2 : (30 : Int32) < zI (n : Int) ↔ (30 : Int) < n := by rw [zl30]; exact zI_lt (by omega) (by omega) (by omega) (by omega)
  have c3 : (10000 : Int32) < zI z ↔ 10000 < z := by rw [zl10000]; exact zI_lt (by omega) (by omega) z1 z2
  have c4 : zI (n : Int) = 0 ↔ (n : Int) = 0 := by rw [zl0]; exact zI_eq (by omega) (by omega) (by omega) (by omega)
  have key : ∃ l : Int, -1 ≤ l ∧ l ≤ 10000 ∧ (if zI (n : Int) ≤ 0 then some (-1 : Int32) else if (30 : Int32) < zI (n : Int) then some (-1) else pu_gd (vp_in (zI n - 1) 30) (some (dd (zI n - 1).toNatClampNeg))) = some (zI l) ∧ ∃ a : Int32, (if zI (n : Int) = 0 then some 1 else pu_gd (vp_in (zI n - 1) 30) (if zI z ≤ mdt (zI n - 1).toNatClampNeg then some 0 else some 1)) = some a ∧ (0 ≤ z → a = if z ≤ l then 0 else 1) := by
    by_cases h0 : n = 0
    · refine ⟨-1, by omega, by omega, ?_, 1, ?_, ?_⟩
      · rw [if_pos (c1.mpr (by omega))]; rfl
      · rw [if_pos (c4.mpr (by omega))]
      · intro hz; rw [if_neg (by omega)]
    · obtain ⟨d, d1, d2, d3, d4⟩ := hd h0
      have e1 : zI (n : Int) - 1 = zI ((n - 1 : Nat) : Int) := by rw [zl1, zI_sub]; congr 1; omega
      have i1 : vp_in (zI ((n - 1 : Nat) : Int)) 30 := (zI_in (by omega) (by omega)).mpr ⟨by omega, by omega⟩
      have n1 : (zI ((n - 1 : Nat) : Int)).toNatClampNeg = n - 1 := by rw [zI_cl (by omega) (by omega)]; omega
      have c5 : zI z ≤ zI d ↔ z ≤ d := zI_le z1 z2 (by omega) (by omega)
      refine ⟨d, by omega, d2, ?_, if z ≤ d then 0 else 1, ?_, fun _ => rfl⟩
      · rw [if_neg (fun q => h0 (by have := c1.mp q; omega)), if_neg (fun q => absurd (c2.mp q) (by omega)), e1, pu_gt i1, n1, d3]
      · rw [if_neg (fun q => h0 (by have := c4.mp q; omega)), e1, pu_gt i1, n1, d4]
        simp only [c5]
        split <;> rfl
  obtain ⟨l, l1, l2, k1, a, k2, k3⟩ := key
  have c6 : zI z ≤ zI l ↔ z ≤ l := zI_le z1 z2 (by omega) (by omega)
  unfold p_Days_canFollow
  rw [k1, k2]
  simp only [Option.bind_some, c3, c6]
  by_cases hb : 0 ≤ z ∧ z ≤ 10000
  · by_cases hl : z ≤ l
    · exact ⟨a, 1, 0, Or.inl rfl, fun q => absurd q (by decide), by rw [if_pos hl], rfl, f1 hb, by rw [k3 hb.1, if_pos hl]; rfl⟩
    · exact ⟨a, 1, 1, Or.inr rfl, fun _ => hb, by rw [if_neg hl, if_neg (by omega)], rfl, f1 hb, by rw [k3 hb.1, if_neg hl]; rfl⟩
  · refine ⟨a, 0, 0, Or.inl rfl, fun q => absurd q (by decide), ?_, rfl, f2 hb, rfl⟩
    by_cases hl : z ≤ l
    · rw [if_pos hl]
    · rw [if_neg hl, if_pos (by omega)]
theorem a_day (a2 : Int32) {sw sh sj sf mk mmk kept mdays : Int32} {dd dm mdt mkp : Nat → Int32} {out : Nat → Int64} (hm : IMk mk mmk) (hD : IDy kept dd dm mdays mdt mkp) :
    ∃ (k kept' : Int32) (dd' dm' : Nat → Int32) (out' : Nat → Int64) (r mdays' : Int32) (mdt' mkp' : Nat → Int32), p_Law_day a2 (zI w) (zI h) sw sh sj sf mk kept 30 dd 30 dm 1 out = some (k, kept', dd', dm', out') ∧ p_Mod_day a2 th (zI w) (zI h) re wi fl ac dn su my ab be mmk sp mdays 30 mdt 30 mkp = some (r, k, mdays', mdt', mkp') ∧ (k = 0 → out' 0 = r.toInt64) ∧ IDy kept' dd' dm' mdays' mdt' mkp' := by
  obtain ⟨z, rfl, z1, z2⟩ := zI_of a2
  obtain ⟨n, hn, rfl, rfl, hv⟩ := id hD
  obtain ⟨mv, mv1, mv2, rfl, rfl⟩ := hm
  have c30 : (30 : Int32) ≤ zI (n : Int) ↔ (30 : Int) ≤ n := by rw [zl30]; exact zI_le (by omega) (by omega) (by omega) (by omega)
  have c31 : zI (n : Int) < 30 ↔ (n : Int) < 30 := by rw [zl30]; exact zI_lt (by omega) (by omega) (by omega) (by omega)
  obtain ⟨a, b, c, hc, hcz, k1, k2, k3, k4⟩ := d_can hn z1 z2 (dd := dd) (mdt := mdt) (fun h0 => by obtain ⟨d, v, q1, q2, -, -, q3, q4, -, -⟩ := hv (n - 1) (by omega); exact ⟨d, q1, q2, q3, q4⟩)
  unfold p_Law_day p_Pic_day p_Mod_day
  rw [k1, k2]
  simp only [Option.bind_some, k3, k4]
  rcases hc with rfl | rfl
  · simp only [if_true]
    obtain ⟨c, hc⟩ : ∃ c : Int32, (if (30 : Int32) ≤ zI (n : Int) then some (0 : Int32) else some 1) = some c := by split <;> exact ⟨_, rfl⟩
    rw [hc]
    simp only [Option.bind_some, gs_1, if_true]
    exact ⟨1, zI n, dd, dm, out, 0, zI n, mdt, mkp, rfl, rfl, fun q => absurd q (by decide), hD⟩
  · obtain ⟨y1, y2⟩ := hcz rfl
    have hfull : p_Days_isFull (zI (n : Int)) = some (if n = 30 then 1 else 0) := by
      unfold p_Days_isFull
      by_cases hf : n = 30
      · rw [if_neg (fun q => absurd (c31.mp q) (by omega)), if_pos hf]
      · rw [if_pos (c31.mpr (by omega)), if_neg hf]
    have hmod : (if (30 : Int32) ≤ zI (n : Int) then some (0 : Int32) else some 1) = some (if n = 30 then 0 else 1) := by
      by_cases hf : n = 30
      · rw [if_pos (c30.mpr (by omega)), if_pos hf]
      · rw [if_neg (fun q => absurd (c30.mp q) (by omega)), if_neg hf]
    rw [hfull, hmod]
    simp only [Option.bind_some, one0, if_false]
    by_cases hf : n = 30
    · simp only [hf, if_true, one0, if_false, gs_2, Option.bind_some]
      subst hf
      exact ⟨2, zI 30, dd, dm, out, 0, zI 30, mdt, mkp, rfl, rfl, fun q => absurd q (by decide), hD⟩
    · have i1 : vp_in (zI (n : Int)) 30 := (zI_in (by omega) (by omega)).mpr ⟨by omega, by omega⟩
      have n1 : (zI (n : Int)).toNatClampNeg = n := by rw [zI_cl (by omega) (by omega)]; omega
      have e1 : zI (n : Int) + 1 = zI ((n + 1 : Nat) : Int) := by rw [zl1, zI_add]; congr 1
      have hkeep : p_Days_keep (zI z) (zI mv) (zI (n : Int)) 30 dd 30 dm = some (zI ((n + 1 : Nat) : Int), upd dd n (zI z), upd dm n (zI mv)) := by
        unfold p_Days_keep
        rw [if_neg (fun q => absurd (c30.mp q) (by omega)), pu_gt i1, pu_gt i1, n1, e1]
      simp only [hf, if_false, if_true, hkeep, gs_ok, Option.bind_some, one0, pu_gt i1, pu_gt in01, n1, e1]
      refine ⟨_, _, _, _, _, _, _, _, _, rfl, rfl, fun _ => up0 _ _, n + 1, by omega, rfl, rfl, fun j hj => ?_⟩
      by_cases e : j = n
      · subst e
        exact ⟨z, mv, y1, y2, mv1, mv2, pk_us, pk_us, pk_us, pk_us⟩
      · rw [pk_un e, pk_un e, pk_un e, pk_un e]
        exact hv j (by omega)
end AD
