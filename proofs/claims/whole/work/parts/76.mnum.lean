/-! PURE SIDE: the reference reads its labels -/
section AM
variable {th re wi fl ac dn ma sp da : Int32} {su my ab be : Int64} {w h : Nat} {dk : Nat → Prop} {f : Nat → Int32}
theorem MS_c (hd : ∀ p, dk p → p < 576 ∧ gr w h p) (hS : MS dk f) {a b : Nat} (ha : dk a) (hb : dk b) (hc : Cn dk a b) : f a = f b := by
  obtain ⟨la, a1, a2, a3, a4⟩ := (hS.1 a (hd a ha).1).1 ha
  obtain ⟨lb, b1, b2, b3, b4⟩ := (hS.1 b (hd b hb).1).1 hb
  have ha5 := (hd a ha).1
  have hb5 := (hd b hb).1
  have e := hc (fun k => (f k).toNatClampNeg) (fun p q hp hq hpq => by (try dsimp only); rw [hS.2 p q hp hq hpq])
  try dsimp only at e
  rw [a1, b1, zn_cl (by omega), zn_cl (by omega)] at e
  rw [a1, b1, e]
theorem MS_d (hS : MS dk f) {k : Nat} (hk : k < 576) : f k = -1 ↔ ¬ dk k := by
  constructor
  · intro e hd
    obtain ⟨l, l1, l2, l3, l4⟩ := (hS.1 k hk).1 hd
    rw [l1] at e
    exact zF1 (by omega) e
  · exact (hS.1 k hk).2
theorem MS_r (hd : ∀ p, dk p → p < 576 ∧ gr w h p) (hS : MS dk f) {k : Nat} (hk : k < 576) : f k = zI (k : Int) ↔ Rt dk k := by
  constructor
  · intro e
    have hdk : dk k := by
      apply Classical.byContradiction
      intro hn
      rw [(hS.1 k hk).2 hn] at e
      exact zF1 (by omega) e.symm
    refine ⟨hdk, fun q hq hc => ?_⟩
    have e2 := MS_c hd hS hdk hq hc
    obtain ⟨l, l1, l2, l3, l4⟩ := (hS.1 q (hd q hq).1).1 hq
    have hq5 := (hd q hq).1
    rw [e, l1, zn_eq (by omega) (by omega)] at e2
    omega
  · intro hr
    obtain ⟨l, l1, l2, l3, l4⟩ := (hS.1 k hk).1 hr.1
    have := hr.2 l l2 (Cn_s l4)
    rw [l1, show l = k by omega]
theorem MS_m (hd : ∀ p, dk p → p < 576 ∧ gr w h p) (hS : MS dk f) {c k : Nat} (hc : Rt dk c) (hk : k < 576) : f k = zI (c : Int) ↔ Cm dk c k := by
  have hc5 := (hd c hc.1).1
  constructor
  · intro e
    have hdk : dk k := by
      apply Classical.byContradiction
      intro hn
      rw [(hS.1 k hk).2 hn] at e
      exact zF1 (by omega) e.symm
    obtain ⟨l, l1, l2, l3, l4⟩ := (hS.1 k hk).1 hdk
    rw [l1, zn_eq (by omega) (by omega)] at e
    subst e
    exact ⟨hdk, l4⟩
  · rintro ⟨hdk, hcc⟩
    rw [← MS_c hd hS hc.1 hdk hcc]
    exact (MS_r hd hS hc5).mpr hc
theorem n_near (hw : w ≤ 24) (hh : h ≤ 24) (hd : ∀ p, dk p → p < 576 ∧ gr w h p) (hS : MS dk f) {k : Nat} (hk : k < 576) :
    p_Mod_near (zI k) th (zI w) (zI h) re wi fl ac dn su my ab be ma sp da 576 f = some (zI (nr w h dk k)) := by
  have := pu_fun (f := p_Mod_near_L1 (zI k) th (zI w) (zI h) re wi fl ac dn su my ab be ma sp da 576 f) (σ := Unit) (fun n _ => (zI (sm (fun n => ic (∃ q, nbr w h k n q ∧ dk q)) n), zI (n : Int))) (fun _ => ()) 4 (fun n hn => by
    unfold p_Mod_near_L1
    dsimp only
    obtain ⟨t, f'⟩ := @q_neigh th re wi fl ac dn ma sp da su my ab be w h hw hh k n hk hn
    rw [if_neg (by rw [show (4 : Int32) = zI ((4 : Nat) : Int) by decide, zn_le (by omega) (by omega)]; omega), zI_s]
    have ez : ∀ b : Int, ic (∃ q, nbr w h k n q ∧ dk q) = b → sm (fun n => ic (∃ q, nbr w h k n q ∧ dk q)) (n + 1) = sm (fun n => ic (∃ q, nbr w h k n q ∧ dk q)) n + b := fun b e => by
      show sm _ n + ic (∃ q, nbr w h k n q ∧ dk q) = _
      rw [e]
    rcases nbr_or w h k n with ⟨q, hq⟩ | hno
    · rw [t q hq]
      have hq5 : q < 576 := by have := hq.1; unfold gr at this; omega
      simp only [Option.bind_some]
      rw [if_neg (by rw [zlm1, zI_eq (by omega) (by omega) (by omega) (by omega)]; omega), pu_gt ((zn_in (by omega)).mpr hq5), zn_cl (by omega)]
      by_cases hdq : dk q
      · rw [if_neg (fun e => (MS_d hS hq5).mp e hdq), ez 1 (ic_t ⟨q, hq, hdq⟩), zl1, zI_add]
      · rw [if_pos ((MS_d hS hq5).mpr hdq), ez 0 (ic_f (by rintro ⟨q', hq', hd'⟩; rw [nbr_u hq hq'] at hdq; exact hdq hd'))]
        simp only [Int.add_zero]
    · rw [f' hno]
      simp only [Option.bind_some]
      rw [if_pos trivial, ez 0 (ic_f (by rintro ⟨q', hq', hd'⟩; exact hno q' hq'))]
      simp only [Int.add_zero]) (e := (zI (sm (fun n => ic (∃ q, nbr w h k n q ∧ dk q)) 4), zI ((4 : Nat) : Int))) (by
    unfold p_Mod_near_L1
    dsimp only
    rw [if_pos (by decide)])
  have this' : pu_loop (p_Mod_near_L1 (zI k) th (zI w) (zI h) re wi fl ac dn su my ab be ma sp da 576 f) (0, 0) = some (zI (sm (fun n => ic (∃ q, nbr w h k n q ∧ dk q)) 4), zI ((4 : Nat) : Int)) := this
  unfold p_Mod_near
  rw [this']
  rfl
theorem n_cell (hd : ∀ p, dk p → p < 576 ∧ gr w h p) (hS : MS dk f) {c i : Nat} (hc : Rt dk c) (hi : cn dk c = i) (hi9 : i ≤ 1000) :
    p_Mod_cellOf (zI i) th (zI w) (zI h) re wi fl ac dn su my ab be ma sp da 576 f = some (zI c) := by
  have hc5 := (hd c hc.1).1
  have := pu_fun (f := p_Mod_cellOf_L1 (zI i) 576 f) (σ := Unit) (fun m _ => (zI ((cn dk m : Int) - 1), zI ((m : Int) - 1))) (fun _ => ()) (c + 1) (fun m hm => by
    unfold p_Mod_cellOf_L1
    dsimp only
    have hle : cn dk m ≤ cn dk c := cn_m (by omega)
    have e1 : zI ((m : Int) - 1) + 1 = zI (m : Int) := by rw [zl1, zI_add]; congr 1; omega
    have e2 : zI ((cn dk m : Int) - 1) + 1 = zI (cn dk m : Int) := by rw [zl1, zI_add]; congr 1; omega
    rw [if_neg (by rw [zI_le (by omega) (by omega) (by omega) (by omega)]; omega), e1, e2, pu_gt ((zn_in (by omega)).mpr (by omega)), zn_cl (by omega)]
    have e3 : ((m + 1 : Nat) : Int) - 1 = (m : Int) := by omega
    by_cases hr : Rt dk m
    · rw [if_pos ((MS_r hd hS (by omega)).mpr hr), cn_t hr, e3]
      congr 4
      omega
    · rw [if_neg (fun e => hr ((MS_r hd hS (by omega)).mp e)), cn_f hr, e3]) (e := (zI ((cn dk (c + 1) : Int) - 1), zI (((c + 1 : Nat) : Int) - 1))) (by
    unfold p_Mod_cellOf_L1
    dsimp only
    have e1 := cn_t hc
    rw [if_pos (by rw [zI_le (by omega) (by omega) (by omega) (by omega)]; omega)])
  have this' : pu_loop (p_Mod_cellOf_L1 (zI i) 576 f) (-1, -1) = some (zI ((cn dk (c + 1) : Int) - 1), zI (((c + 1 : Nat) : Int) - 1)) := this
  unfold p_Mod_cellOf
  rw [this']
  show some _ = some _
  congr 2
  omega
theorem z_mn2 {l x : Int} (h1 : -1000 ≤ l) (h2 : l ≤ 1000) (h3 : -1000 ≤ x) (h4 : x ≤ 1000) : (if zI l ≤ zI x then some (zI l) else pu_gd (¬ (24 : Int32) = 0) (some (zI x))) = some (zI (if l ≤ x then l else x)) := by
  rw [pu_gt (by decide)]
  simp only [zI_le (show -2147483648 ≤ l by omega) (show l ≤ 2147483647 by omega) (show -2147483648 ≤ x by omega) (show x ≤ 2147483647 by omega)]
  split <;> rfl
theorem z_mx2 {r x : Int} (h1 : -1000 ≤ r) (h2 : r ≤ 1000) (h3 : -1000 ≤ x) (h4 : x ≤ 1000) : (if zI x ≤ zI r then some (zI r) else pu_gd (¬ (24 : Int32) = 0) (some (zI x))) = some (zI (if x ≤ r then r else x)) := by
  rw [pu_gt (by decide)]
  simp only [zI_le (show -2147483648 ≤ x by omega) (show x ≤ 2147483647 by omega) (show -2147483648 ≤ r by omega) (show r ≤ 2147483647 by omega)]
  split <;> rfl
theorem at_mn2 {C : Nat → Prop} {g : Nat → Int} {k : Nat} {l : Int} (hk : C k) (hA : (∃ i, i < k ∧ C i ∧ g i = l) ∨ g k < l) : ∃ i, i < k + 1 ∧ C i ∧ g i = (if l ≤ g k then l else g k) := by
  by_cases hc : l ≤ g k
  · rw [if_pos hc]
    rcases hA with ⟨i, h1, h2, h3⟩ | h
    · exact ⟨i, by omega, h2, h3⟩
    · omega
  · rw [if_neg hc]; exact ⟨k, by omega, hk, rfl⟩
theorem at_mx2 {C : Nat → Prop} {g : Nat → Int} {k : Nat} {l : Int} (hk : C k) (hA : (∃ i, i < k ∧ C i ∧ g i = l) ∨ l < g k) : ∃ i, i < k + 1 ∧ C i ∧ g i = (if g k ≤ l then l else g k) := by
  by_cases hc : g k ≤ l
  · rw [if_pos hc]
    rcases hA with ⟨i, h1, h2, h3⟩ | h
    · exact ⟨i, by omega, h2, h3⟩
    · omega
  · rw [if_neg hc]; exact ⟨k, by omega, hk, rfl⟩
noncomputable def thn (w h : Nat) (dk C : Nat → Prop) (k : Nat) : Int := ic (∀ j, j < k → C j → nr w h dk j ≤ 2)
def NB (C : Nat → Prop) (k : Nat) (q : Int × Int × Int × Int) : Prop :=
  (-1 ≤ q.1 ∧ q.1 ≤ 99 ∧ -1 ≤ q.2.1 ∧ q.2.1 ≤ 99 ∧ -1 ≤ q.2.2.1 ∧ q.2.2.1 ≤ 99 ∧ -1 ≤ q.2.2.2 ∧ q.2.2.2 ≤ 99) ∧ (∀ i : Nat, i < k → C i → q.1 ≤ ((i % 24 : Nat) : Int) ∧ q.2.1 ≤ ((i / 24 : Nat) : Int) ∧ ((i % 24 : Nat) : Int) ≤ q.2.2.1 ∧ ((i / 24 : Nat) : Int) ≤ q.2.2.2) ∧
  (((∀ i, i < k → ¬ C i) ∧ q = (99, 99, -1, -1)) ∨ ((∃ i, i < k ∧ C i ∧ ((i % 24 : Nat) : Int) = q.1) ∧ (∃ i, i < k ∧ C i ∧ ((i / 24 : Nat) : Int) = q.2.1) ∧ (∃ i, i < k ∧ C i ∧ ((i % 24 : Nat) : Int) = q.2.2.1) ∧ (∃ i, i < k ∧ C i ∧ ((i / 24 : Nat) : Int) = q.2.2.2)))
noncomputable def nE (w h : Nat) (dk C : Nat → Prop) (Cg : Nat → Int) (k : Nat) (q : Int × Int × Int × Int) : Int32 × Int32 × Int32 × Int32 × Int32 × Int32 × Int32 × Int32 × Int32 :=
  (zI (sm (fun k => ic (C k)) k), zI (sm (fun k => ic (C k) * Cg k) k), zI q.1, zI q.2.1, zI q.2.2.1, zI q.2.2.2, zI (sm (fun k => ic (C k) * ic (nr w h dk k = 1)) k), zI (thn w h dk C k), zI (k : Int))
theorem n_step (hw : w ≤ 24) (hh : h ≤ 24) (hd : ∀ p, dk p → p < 576 ∧ gr w h p) (hS : MS dk f) {c : Nat} (hc : Rt dk c) {ch : Nat → Int32} {Cg : Nat → Int} (hG : ∀ p, dk p → ch p = zI (Cg p)) {k : Nat} (hk : k < 576) {q : Int × Int × Int × Int} (hq : NB (Cm dk c) k q) :
    ∃ q', p_Mod_numbers_L2 th (zI w) (zI h) re wi fl ac dn su my ab be ma sp da 576 f 576 ch (zI c) (nE w h dk (Cm dk c) Cg k q) = some (.inl (nE w h dk (Cm dk c) Cg (k + 1) q')) ∧ NB (Cm dk c) (k + 1) q' := by
  obtain ⟨l, t, r, b⟩ := q
  obtain ⟨⟨b1, b2, b3, b4, b5, b6, b7, b8⟩, i1, i2⟩ := hq
  dsimp only at b1 b2 b3 b4 b5 b6 b7 b8 i1 i2
  have sS : ∀ g : Nat → Int, sm g (k + 1) = sm g k + g k := fun g => rfl
  unfold nE p_Mod_numbers_L2
  dsimp only
  rw [if_neg (by rw [zl576, zn_le (by omega) (by omega)]; omega), pu_gt ((zn_in (by omega)).mpr hk), zn_cl (by omega)]
  by_cases hC : Cm dk c k
  · have hdk := hC.1
    have r1 : zI (k : Int) - zI (k : Int) / 24 * 24 = zI ((k % 24 : Nat) : Int) := by
      rw [zl24, zI_rem (by omega) (by omega) (by omega) (by omega)]; congr 1
    have r2 : zI (k : Int) / 24 = zI ((k / 24 : Nat) : Int) := by
      rw [zl24, zI_div (by omega) (by omega) (by omega) (by omega)]; congr 1
    have nn := @n_near th re wi fl ac dn ma sp da su my ab be w h dk f hw hh hd hS k hk
    obtain ⟨n1, n2⟩ := nr_in w h dk k
    have c1 : (2 : Int32) < zI (nr w h dk k) ↔ 2 < nr w h dk k := by rw [zl2]; exact zI_lt (by omega) (by omega) (by omega) (by omega)
    have c2 : zI (nr w h dk k) = 1 ↔ nr w h dk k = 1 := by rw [zl1]; exact zI_eq (by omega) (by omega) (by omega) (by omega)
    have et : (if zI (thn w h dk (Cm dk c) k) = 0 then some (0 : Int32) else (p_Mod_near (zI k) th (zI w) (zI h) re wi fl ac dn su my ab be ma sp da 576 f).bind (fun v => if 2 < v then some 0 else some 1)) = some (zI (thn w h dk (Cm dk c) (k + 1))) := by
      rw [nn]
      simp only [Option.bind_some, c1]
      unfold thn
      by_cases ha : ∀ j, j < k → Cm dk c j → nr w h dk j ≤ 2
      · rw [ic_t ha, if_neg (by decide)]
        by_cases h2 : 2 < nr w h dk k
        · rw [if_pos h2, ic_f (fun z => by have := z k (by omega) hC; omega)]; exact congrArg some zl0
        · rw [if_neg h2, ic_t (fun j hj hj' => by
            by_cases ej : j = k
            · subst ej; omega
            · exact ha j (by omega) hj')]; exact congrArg some zl1
      · rw [ic_f ha, if_pos (by decide), ic_f (fun z => ha (fun j hj hj' => z j (by omega) hj'))]; exact congrArg some zl0
    rw [if_pos ((MS_m hd hS hc hk).mpr hC), pu_gt ((zn_in (by omega)).mpr hk), hG k hdk, et, nn, r1, r2]
    rw [z_mn2 (by omega) (by omega) (by omega) (by omega), z_mn2 (by omega) (by omega) (by omega) (by omega), z_mx2 (by omega) (by omega) (by omega) (by omega), z_mx2 (by omega) (by omega) (by omega) (by omega)]
    simp only [Option.bind_some, pu_gt (show ¬ (24 : Int32) = 0 by decide), c2, zI_s]
    refine ⟨(if l ≤ ((k % 24 : Nat) : Int) then l else ((k % 24 : Nat) : Int), if t ≤ ((k / 24 : Nat) : Int) then t else ((k / 24 : Nat) : Int), if ((k % 24 : Nat) : Int) ≤ r then r else ((k % 24 : Nat) : Int), if ((k / 24 : Nat) : Int) ≤ b then b else ((k / 24 : Nat) : Int)), ?_, ?_⟩
    · simp only [sS, ic_t hC, Int.one_mul]
      by_cases h1 : nr w h dk k = 1
      · rw [if_pos h1, ic_t h1]
        simp only [zl1, zI_add]
      · rw [if_neg h1, ic_f h1]
        simp only [zl1, zI_add, Int.add_zero]
    · refine ⟨?_, fun i hi hCi => ?_, Or.inr ⟨?_, ?_, ?_, ?_⟩⟩
      · dsimp only
        refine ⟨?_, ?_, ?_, ?_, ?_, ?_, ?_, ?_⟩ <;> (split <;> omega)
      · dsimp only
        by_cases ei : i = k
        · subst ei
          refine ⟨?_, ?_, ?_, ?_⟩ <;> (split <;> omega)
        · have := i1 i (by omega) hCi
          refine ⟨?_, ?_, ?_, ?_⟩ <;> (split <;> omega)
      · refine at_mn2 (g := fun i => ((i % 24 : Nat) : Int)) hC ?_
        rcases i2 with ⟨z, e⟩ | ⟨a1, a2, a3, a4⟩
        · simp only [Prod.mk.injEq] at e
          exact Or.inr (by (try dsimp only); omega)
        · exact Or.inl a1
      · refine at_mn2 (g := fun i => ((i / 24 : Nat) : Int)) hC ?_
        rcases i2 with ⟨z, e⟩ | ⟨a1, a2, a3, a4⟩
        · simp only [Prod.mk.injEq] at e
          exact Or.inr (by (try dsimp only); omega)
        · exact Or.inl a2
      · refine at_mx2 (g := fun i => ((i % 24 : Nat) : Int)) hC ?_
        rcases i2 with ⟨z, e⟩ | ⟨a1, a2, a3, a4⟩
        · simp only [Prod.mk.injEq] at e
          exact Or.inr (by (try dsimp only); omega)
        · exact Or.inl a3
      · refine at_mx2 (g := fun i => ((i / 24 : Nat) : Int)) hC ?_
        rcases i2 with ⟨z, e⟩ | ⟨a1, a2, a3, a4⟩
        · simp only [Prod.mk.injEq] at e
          exact Or.inr (by (try dsimp only); omega)
        · exact Or.inl a4
  · rw [if_neg (fun e => hC ((MS_m hd hS hc hk).mp e)), zI_s]
    have et : thn w h dk (Cm dk c) (k + 1) = thn w h dk (Cm dk c) k := by
      unfold thn
      refine ic_c ⟨fun z j hj hj' => z j (by omega) hj', fun z j hj hj' => ?_⟩
      by_cases ej : j = k
      · subst ej; exact absurd hj' hC
      · exact z j (by omega) hj'
    refine ⟨(l, t, r, b), ?_, ⟨b1, b2, b3, b4, b5, b6, b7, b8⟩, fun i hi hCi => ?_, ?_⟩
    · simp only [sS, ic_f hC, Int.zero_mul, Int.add_zero, et]
    · by_cases ei : i = k
      · subst ei; exact absurd hCi hC
      · exact i1 i (by omega) hCi
    · rcases i2 with ⟨z, e⟩ | ⟨⟨j1, a1, a1'⟩, ⟨j2, a2, a2'⟩, ⟨j3, a3, a3'⟩, ⟨j4, a4, a4'⟩⟩
      · refine Or.inl ⟨fun i hi hCi => ?_, e⟩
        by_cases ei : i = k
        · subst ei; exact absurd hCi hC
        · exact z i (by omega) hCi
      · exact Or.inr ⟨⟨j1, by omega, a1'⟩, ⟨j2, by omega, a2'⟩, ⟨j3, by omega, a3'⟩, ⟨j4, by omega, a4'⟩⟩
theorem n_num (hw : w ≤ 24) (hh : h ≤ 24) (hd : ∀ p, dk p → p < 576 ∧ gr w h p) (hS : MS dk f) {c i : Nat} (hc : Rt dk c) (hi : cn dk c = i) (hi9 : i ≤ 1000) {ch : Nat → Int32} {Cg : Nat → Int} (hG : ∀ p, dk p → ch p = zI (Cg p)) :
    ∃ g, SF w h dk (Cm dk c) Cg g ∧ ∀ j : Nat, j < 7 → p_Mod_numbers (zI i) (zI j) th (zI w) (zI h) re wi fl ac dn su my ab be ma sp da 576 f 576 ch = some (g j) := by
  have := pu_for (f := p_Mod_numbers_L2 th (zI w) (zI h) re wi fl ac dn su my ab be ma sp da 576 f 576 ch (zI c)) (nE w h dk (Cm dk c) Cg) (NB (Cm dk c)) (fun e => ∃ q, e = nE w h dk (Cm dk c) Cg 576 q ∧ NB (Cm dk c) 576 q) 576 (by
    intro k q hk hq
    obtain ⟨q', h1, h2⟩ := @n_step th re wi fl ac dn ma sp da su my ab be w h dk f hw hh hd hS c hc ch Cg hG k hk q hq
    exact Or.inl ⟨q', h1, h2⟩) (by
    intro q hq
    refine ⟨_, ?_, q, rfl, hq⟩
    unfold nE p_Mod_numbers_L2
    dsimp only
    rw [if_pos (by decide)]) (k0 := 0) (s0 := (99, 99, -1, -1)) (by omega) ⟨by (try dsimp only); omega, fun i hi => by omega, Or.inl ⟨fun i hi => by omega, rfl⟩⟩
  obtain ⟨e, h1, ⟨l, t, r, b⟩, rfl, hb, h2, h3⟩ := this
  have e0 : nE w h dk (Cm dk c) Cg 0 (99, 99, -1, -1) = (0, 0, 99, 99, -1, -1, 0, 1, 0) := by
    unfold nE thn
    rw [ic_t (fun j hj => by omega)]
    rfl
  rw [e0] at h1
  dsimp only at hb h2 h3
  have hcc : Cm dk c c := ⟨hc.1, Cn_r c⟩
  have hc5 := (hd c hc.1).1
  rcases h3 with ⟨z, -⟩ | ⟨⟨j1, a1, a1', a1''⟩, ⟨j2, a2, a2', a2''⟩, ⟨j3, a3, a3', a3''⟩, ⟨j4, a4, a4', a4''⟩⟩
  · exact absurd hcc (z c hc5)
  · have hC5 : ∀ p, Cm dk c p → p < 576 := fun p hp => (hd p hp.1).1
    refine ⟨fun j => if j = 0 then zI (kc (Cm dk c)) else if j = 1 then zI (sm (fun k => ic (Cm dk c k) * Cg k) 576) else if j = 2 then zI l else if j = 3 then zI t else if j = 4 then zI r else if j = 5 then zI b else @ite _ (Crk w h dk (Cm dk c)) (Classical.propDecidable _) (zI (kc (Cm dk c) - 1)) (-1), ⟨rfl, rfl, ⟨j1 % 24, by show zI l = _; rw [a1''], fun p hp => by have := h2 p (hC5 p hp) hp; (try dsimp only); omega, j1, a1', rfl⟩, ⟨j2 / 24, by show zI t = _; rw [a2''], fun p hp => by have := h2 p (hC5 p hp) hp; (try dsimp only); omega, j2, a2', rfl⟩, ⟨j3 % 24, by show zI r = _; rw [a3''], fun p hp => by have := h2 p (hC5 p hp) hp; (try dsimp only); omega, j3, a3', rfl⟩, ⟨j4 / 24, by show zI b = _; rw [a4''], fun p hp => by have := h2 p (hC5 p hp) hp; (try dsimp only); omega, j4, a4', rfl⟩, fun q => ?_, fun q => ?_⟩, fun j hj => ?_⟩
    · show @ite _ (Crk w h dk (Cm dk c)) (Classical.propDecidable _) _ _ = _
      rw [if_pos q]
    · show @ite _ (Crk w h dk (Cm dk c)) (Classical.propDecidable _) _ _ = _
      rw [if_neg q]
    · unfold p_Mod_numbers
      rw [@n_cell th re wi fl ac dn ma sp da su my ab be w h dk f hd hS c i hc hi hi9]
      simp only [Option.bind_some]
      rw [h1]
      unfold nE
      simp only [Option.bind_some]
      have : j = 0 ∨ j = 1 ∨ j = 2 ∨ j = 3 ∨ j = 4 ∨ j = 5 ∨ j = 6 := by omega
      rcases this with rfl | rfl | rfl | rfl | rfl | rfl | rfl
      · rfl
      · rfl
      · rfl
      · rfl
      · rfl
      · rfl
      · have k1 := kc_in (Cm dk c)
        have hs := sm_le (g := fun k => ic (Cm dk c k) * ic (nr w h dk k = 1)) (B := 1) 576 (fun k _ => by
          have e1 := ic_01 (Cm dk c k)
          have e2 := ic_01 (nr w h dk k = 1)
          rcases e1 with e1 | e1 <;> rcases e2 with e2 | e2 <;> simp [e1, e2])
        have d1 : zI (sm (fun k => ic (Cm dk c k)) 576) ≤ 2 ↔ kc (Cm dk c) ≤ 2 := by rw [zl2]; exact zI_le (by unfold kc at k1; omega) (by unfold kc at k1; omega) (by omega) (by omega)
        have d2 : zI (thn w h dk (Cm dk c) 576) = 0 ↔ thn w h dk (Cm dk c) 576 = 0 := by
          have := ic_01 (∀ j, j < 576 → Cm dk c j → nr w h dk j ≤ 2)
          unfold thn
          rw [zl0]; exact zI_eq (by omega) (by omega) (by omega) (by omega)
        have d3 : zI (sm (fun k => ic (Cm dk c k) * ic (nr w h dk k = 1)) 576) = 2 ↔ sm (fun k => ic (Cm dk c k) * ic (nr w h dk k = 1)) 576 = 2 := by rw [zl2]; exact zI_eq (by omega) (by omega) (by omega) (by omega)
        rw [if_neg (by decide), if_neg (by decide), if_neg (by decide), if_neg (by decide), if_neg (by decide), if_neg (by decide)]
        simp only [d1, d2, d3]
        show _ = some (@ite _ (Crk w h dk (Cm dk c)) (Classical.propDecidable _) (zI (kc (Cm dk c) - 1)) (-1))
        by_cases q1 : kc (Cm dk c) ≤ 2
        · rw [if_pos q1, if_neg (fun z => by have := z.1; omega)]
        · rw [if_neg q1]
          by_cases q2 : thn w h dk (Cm dk c) 576 = 0
          · rw [if_pos q2, if_neg (fun z => by
              have : thn w h dk (Cm dk c) 576 = 1 := ic_t (fun j _ hj' => z.2.1 j hj')
              omega)]
          · rw [if_neg q2]
            have q2' : ∀ j, j < 576 → Cm dk c j → nr w h dk j ≤ 2 := by
              rcases ic_01 (∀ j, j < 576 → Cm dk c j → nr w h dk j ≤ 2) with z | z
              · exact absurd z q2
              · exact ic_1.mp z
            by_cases q3 : sm (fun k => ic (Cm dk c k) * ic (nr w h dk k = 1)) 576 = 2
            · rw [if_pos q3, if_pos ⟨by omega, fun p hp => q2' p (hC5 p hp) hp, q3⟩, zl1, zI_sub]
              rfl
            · rw [if_neg q3, if_neg (fun z => q3 z.2.2)]
theorem n_map (hw : w ≤ 24) (hh : h ≤ 24) (hd : ∀ p, dk p → p < 576 ∧ gr w h p) (hS : MS dk f) {x y : Nat} (hx : x < w) (hy : y < h) :
    ∃ v z : Int32, pu_loop (p_Mod_map_L3 (zI x) (zI y) 576 f) (-1, 0) = some (v, z) ∧ (¬ dk (24 * y + x) → v = -1) ∧ ∀ r, Rt dk r → dk (24 * y + x) → Cn dk r (24 * y + x) → v = zI (cn dk r : Int) := by
  have ep : (24 * zI (y : Int) + zI (x : Int)).toNatClampNeg = 24 * y + x := by rw [zl24, z_pm, zn_cl (by omega)]
  by_cases hdk : dk (24 * y + x)
  · obtain ⟨r, r1, r2, r3⟩ := Rt_ex (dk := dk) (24 * y + x) _ (Nat.le_refl _) hdk
    have ef : f (24 * y + x) = zI (r : Int) := (MS_m hd hS r1 (by omega)).mpr ⟨hdk, r2⟩
    have := pu_fun (f := p_Mod_map_L3 (zI x) (zI y) 576 f) (σ := Unit) (fun m _ => (zI ((cn dk m : Int) - 1), zI (m : Int))) (fun _ => ()) (r + 1) (fun m hm => by
      unfold p_Mod_map_L3
      dsimp only
      rw [ep, ef, if_neg (by rw [zn_lt (by omega) (by omega)]; omega), pu_gt ((zn_in (by omega)).mpr (by omega)), zn_cl (by omega), zI_s]
      by_cases hr : Rt dk m
      · rw [if_pos ((MS_r hd hS (by omega)).mpr hr), cn_t hr, zl1, zI_add]
        congr 4
        omega
      · rw [if_neg (fun e => hr ((MS_r hd hS (by omega)).mp e)), cn_f hr]) (e := (zI ((cn dk (r + 1) : Int) - 1), zI ((r + 1 : Nat) : Int))) (by
      unfold p_Mod_map_L3
      dsimp only
      rw [ep, ef, if_pos (by rw [zn_lt (by omega) (by omega)]; omega)])
    have this' : pu_loop (p_Mod_map_L3 (zI x) (zI y) 576 f) (-1, 0) = some (zI ((cn dk (r + 1) : Int) - 1), zI ((r + 1 : Nat) : Int)) := this
    refine ⟨_, _, this', fun q => absurd hdk q, fun r' hr' _ hc' => ?_⟩
    rw [Rt_u hr' r1 hc' r2, cn_t r1]
    congr 1
    omega
  · have ef : f (24 * y + x) = -1 := (hS.1 _ (by omega)).2 hdk
    have := pu_fun (f := p_Mod_map_L3 (zI x) (zI y) 576 f) (σ := Unit) (fun _ _ => (-1, 0)) (fun _ => ()) 0 (fun m hm => by omega) (e := (-1, 0)) (by
      unfold p_Mod_map_L3
      dsimp only
      rw [ep, ef, if_pos (by decide)])
    exact ⟨_, _, this, fun _ => rfl, fun r _ q => absurd q hdk⟩
theorem n_count (hd : ∀ p, dk p → p < 576 ∧ gr w h p) (hS : MS dk f) : ∃ z, pu_loop (p_Mod_run_L33 576 f) (0, 0) = some (z, zI (cn dk 576 : Int)) := by
  have := pu_fun (f := p_Mod_run_L33 576 f) (σ := Unit) (fun m _ => (zI (m : Int), zI (cn dk m : Int))) (fun _ => ()) 576 (fun m hm => by
    unfold p_Mod_run_L33
    dsimp only
    rw [if_neg (by rw [zl576, zn_le (by omega) (by omega)]; omega), pu_gt ((zn_in (by omega)).mpr (by omega)), zn_cl (by omega), zI_s, zI_s]
    by_cases hr : Rt dk m
    · rw [if_pos ((MS_r hd hS (by omega)).mpr hr), cn_t hr]
    · rw [if_neg (fun e => hr ((MS_r hd hS (by omega)).mp e)), cn_f hr]) (e := (zI ((576 : Nat) : Int), zI (cn dk 576 : Int))) (by
    unfold p_Mod_run_L33
    dsimp only
    rw [if_pos (by decide)])
  exact ⟨_, this⟩
end AM
