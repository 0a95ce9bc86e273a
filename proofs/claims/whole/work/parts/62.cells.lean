/-! PURE SIDE, CELLS: the small functions of class and reference, by numbers -/
theorem zl0 : (0 : Int32) = zI 0 := by decide
theorem zl1 : (1 : Int32) = zI 1 := by decide
theorem zl2 : (2 : Int32) = zI 2 := by decide
theorem zl3 : (3 : Int32) = zI 3 := by decide
theorem zl4 : (4 : Int32) = zI 4 := by decide
theorem zl6 : (6 : Int32) = zI 6 := by decide
theorem zl7 : (7 : Int32) = zI 7 := by decide
theorem zl24 : (24 : Int32) = zI 24 := by decide
theorem zl255 : (255 : Int32) = zI 255 := by decide
theorem zlm1 : (-1 : Int32) = zI (-1) := by decide
def inG (w h : Nat) (a b : Int) : Prop := 0 ≤ a ∧ a < w ∧ 0 ≤ b ∧ b < h
theorem inG_dec (w h : Nat) (a b : Int) : inG w h a b ∨ ¬ inG w h a b := by unfold inG; omega
theorem q_hasCell {w h : Nat} (hw : w ≤ 24) (hh : h ≤ 24) {a b : Int} (a1 : -2147483648 ≤ a) (a2 : a ≤ 2147483647) (b1 : -2147483648 ≤ b) (b2 : b ≤ 2147483647) :
    (inG w h a b → p_Pic_hasCell (zI a) (zI b) (zI w) (zI h) = some 1) ∧ (¬ inG w h a b → p_Pic_hasCell (zI a) (zI b) (zI w) (zI h) = some 0) := by
  have c1 : zI a < 0 ↔ a < 0 := by rw [zl0]; exact zI_lt a1 a2 (by omega) (by omega)
  have c2 : zI w ≤ zI a ↔ (w : Int) ≤ a := zI_le (by omega) (by omega) a1 a2
  have c3 : zI b < 0 ↔ b < 0 := by rw [zl0]; exact zI_lt b1 b2 (by omega) (by omega)
  have c4 : zI h ≤ zI b ↔ (h : Int) ≤ b := zI_le (by omega) (by omega) b1 b2
  unfold p_Pic_hasCell inG
  simp only [c1, c2, c3, c4]
  refine ⟨fun hi => ?_, fun hi => ?_⟩
  · rw [if_neg (by omega), if_neg (by omega), if_neg (by omega), if_neg (by omega)]
  · repeat' split
    all_goals first | rfl | (exfalso; omega)
theorem q_needCell {w h : Nat} (hw : w ≤ 24) (hh : h ≤ 24) {a b : Int} (a1 : -2147483648 ≤ a) (a2 : a ≤ 2147483647) (b1 : -2147483648 ≤ b) (b2 : b ≤ 2147483647) :
    (inG w h a b → p_Pic_needCell (zI a) (zI b) (zI w) (zI h) = some (.inr ())) ∧ (¬ inG w h a b → p_Pic_needCell (zI a) (zI b) (zI w) (zI h) = some (.inl 0)) := by
  obtain ⟨t, f⟩ := q_hasCell hw hh a1 a2 b1 b2
  unfold p_Pic_needCell
  refine ⟨fun hi => ?_, fun hi => ?_⟩
  · rw [t hi]; rfl
  · rw [f hi]; rfl
theorem q_needValue {v : Int} (a1 : -2147483648 ≤ v) (a2 : v ≤ 2147483647) : (0 ≤ v ∧ v ≤ 255 → p_Pic_needValue (zI v) = some (.inr ())) ∧ (¬ (0 ≤ v ∧ v ≤ 255) → p_Pic_needValue (zI v) = some (.inl 1)) := by
  have c1 : zI v < 0 ↔ v < 0 := by rw [zl0]; exact zI_lt a1 a2 (by omega) (by omega)
  have c2 : zI v ≤ 255 ↔ v ≤ 255 := by rw [zl255]; exact zI_le a1 a2 (by omega) (by omega)
  unfold p_Pic_needValue
  simp only [c1, c2]
  refine ⟨fun hi => ?_, fun hi => ?_⟩
  · rw [if_neg (by omega), if_pos (by omega)]
  · repeat' split
    all_goals first | rfl | (exfalso; omega)
theorem q_within {a lo hi : Int} (a1 : -2147483648 ≤ a) (a2 : a ≤ 2147483647) (l1 : -2147483648 ≤ lo) (l2 : lo ≤ 2147483647) (h1 : -2147483648 ≤ hi) (h2 : hi ≤ 2147483647) :
    (lo ≤ a ∧ a ≤ hi → p_Mod_within (zI a) (zI lo) (zI hi) = some 1) ∧ (¬ (lo ≤ a ∧ a ≤ hi) → p_Mod_within (zI a) (zI lo) (zI hi) = some 0) := by
  have c1 : zI a < zI lo ↔ a < lo := zI_lt a1 a2 l1 l2
  have c2 : zI hi < zI a ↔ hi < a := zI_lt h1 h2 a1 a2
  unfold p_Mod_within
  simp only [c1, c2]
  refine ⟨fun hi => ?_, fun hi => ?_⟩
  · rw [if_neg (by omega), if_neg (by omega)]
  · repeat' split
    all_goals first | rfl | (exfalso; omega)
section MC
variable {th re wi fl ac dn ma sp da : Int32} {su my ab be : Int64}
theorem q_isCell {w h : Nat} (hw : w ≤ 24) (hh : h ≤ 24) {a b : Int} (a1 : -2147483648 ≤ a) (a2 : a ≤ 2147483647) (b1 : -2147483648 ≤ b) (b2 : b ≤ 2147483647) :
    (inG w h a b → p_Mod_isCell (zI a) (zI b) th (zI w) (zI h) re wi fl ac dn su my ab be ma sp da = some 1) ∧ (¬ inG w h a b → p_Mod_isCell (zI a) (zI b) th (zI w) (zI h) re wi fl ac dn su my ab be ma sp da = some 0) := by
  obtain ⟨t1, f1⟩ := q_within (lo := 0) (hi := (w : Int) - 1) a1 a2 (by omega) (by omega) (by omega) (by omega)
  obtain ⟨t2, f2⟩ := q_within (lo := 0) (hi := (h : Int) - 1) b1 b2 (by omega) (by omega) (by omega) (by omega)
  unfold p_Mod_isCell
  rw [zl0, zl1, zI_sub, zI_sub]
  refine ⟨fun hi => ?_, fun hi => ?_⟩
  · unfold inG at hi
    rw [t1 (by omega), t2 (by omega)]; rfl
  · unfold inG at hi
    by_cases hc : 0 ≤ a ∧ a ≤ (w : Int) - 1
    · rw [t1 hc, f2 (by omega)]; rfl
    · rw [f1 hc]; rfl
theorem q_isPlace {w h : Nat} (hw : w ≤ 24) (hh : h ≤ 24) {k : Int} (k1 : 0 ≤ k) (k2 : k ≤ 2147483647) :
    (inG w h (k % 24) (k / 24) → p_Mod_isPlace (zI k) th (zI w) (zI h) re wi fl ac dn su my ab be ma sp da = some 1) ∧ (¬ inG w h (k % 24) (k / 24) → p_Mod_isPlace (zI k) th (zI w) (zI h) re wi fl ac dn su my ab be ma sp da = some 0) := by
  obtain ⟨t, f⟩ := @q_isCell th re wi fl ac dn ma sp da su my ab be w h hw hh (k % 24) (k / 24) (by omega) (by omega) (by omega) (by omega)
  unfold p_Mod_isPlace
  rw [pu_gt (by decide), pu_gt (by decide), zl24, zI_rem k1 k2 (by omega) (by omega), zI_div k1 k2 (by omega) (by omega)]
  refine ⟨fun hi => ?_, fun hi => ?_⟩
  · rw [t hi]
    show pu_gd _ _ = _
    rw [pu_gt (by decide)]
  · rw [f hi]
    show pu_gd _ _ = _
    rw [pu_gt (by decide)]
theorem q_under {w h : Nat} (hw : w ≤ 24) (hh : h ≤ 24) {k a d : Int} (k1 : 0 ≤ k) (k2 : k < 576) (a1 : -3 ≤ a) (a2 : a ≤ 3) (d1 : -3 ≤ d) (d2 : d ≤ 3) :
    (inG w h (k % 24) (k / 24) ∧ inG w h (k % 24 + a) (k / 24 + d) → p_Mod_under (zI k) (zI a) (zI d) th (zI w) (zI h) re wi fl ac dn su my ab be ma sp da = some (zI (k + 24 * d + a))) ∧ (¬ (inG w h (k % 24) (k / 24) ∧ inG w h (k % 24 + a) (k / 24 + d)) → p_Mod_under (zI k) (zI a) (zI d) th (zI w) (zI h) re wi fl ac dn su my ab be ma sp da = some (-1)) := by
  obtain ⟨t1, f1⟩ := @q_isPlace th re wi fl ac dn ma sp da su my ab be w h hw hh k k1 (by omega)
  obtain ⟨t2, f2⟩ := @q_isCell th re wi fl ac dn ma sp da su my ab be w h hw hh (k % 24 + a) (k / 24 + d) (by omega) (by omega) (by omega) (by omega)
  unfold p_Mod_under
  by_cases hp : inG w h (k % 24) (k / 24)
  · rw [t1 hp]
    simp only [Option.bind_some]
    rw [if_neg (by decide), pu_gt (by decide), pu_gt (by decide), zl24, zI_rem k1 (by omega) (by omega) (by omega), zI_div k1 (by omega) (by omega) (by omega), zI_add, zI_add, zI_mul, zI_add, zI_add]
    by_cases hq : inG w h (k % 24 + a) (k / 24 + d)
    · rw [t2 hq]
      exact ⟨fun _ => rfl, fun n => absurd ⟨hp, hq⟩ n⟩
    · rw [f2 hq]
      exact ⟨fun n => absurd n.2 hq, fun _ => rfl⟩
  · rw [f1 hp]
    exact ⟨fun n => absurd n.1 hp, fun _ => rfl⟩
end MC
theorem q_apart {a b : Int} (a1 : -1000000000 ≤ a) (a2 : a ≤ 1000000000) (b1 : -1000000000 ≤ b) (b2 : b ≤ 1000000000) : p_Mod_apart (zI a) (zI b) = some (zI (if a ≤ b then b - a else a - b)) := by
  have c : zI a ≤ zI b ↔ a ≤ b := zI_le (by omega) (by omega) (by omega) (by omega)
  unfold p_Mod_apart
  simp only [c, zI_sub]
  split <;> rfl
theorem q_abs {a : Int} (a1 : -1000000000 ≤ a) (a2 : a ≤ 1000000000) : (if 0 ≤ zI a then zI a else 0 - zI a) = zI (if 0 ≤ a then a else -a) := by
  have c : (0 : Int32) ≤ zI a ↔ 0 ≤ a := by rw [zl0]; exact zI_le (by omega) (by omega) (by omega) (by omega)
  simp only [c]
  split
  · rfl
  · rw [zl0, zI_sub]; congr 1; omega
