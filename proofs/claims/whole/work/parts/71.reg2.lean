/-! PURE SIDE: register, the two ways through the shifts -/
def Bt (Sf Mf : Int → Int → Int) (a d a' d' : Int) : Prop := bt (Sf a d) (Mf a d) (way a d) a d (Sf a' d') (Mf a' d') (way a' d') a' d'
def rIn (m : Nat) (a d : Int) : Prop := -(m : Int) ≤ a ∧ a ≤ m ∧ -(m : Int) ≤ d ∧ d ≤ m
/-- shifts that come before (A, D) -/
def rPr (m : Nat) (A D a d : Int) : Prop := rIn m a d ∧ (a < A ∨ (a = A ∧ d < D))
theorem Bt_irr {Sf Mf : Int → Int → Int} (a d : Int) : ¬ Bt Sf Mf a d a d := by unfold Bt bt; omega
section AQ
variable {th re wi fl ac dn ma sp da : Int32} {su my ab be : Int64} {w h : Nat}
theorem zm_s (m k : Nat) : zI ((k : Int) - m) + 1 = zI (((k + 1 : Nat) : Int) - m) := by rw [zl1, zI_add]; congr 1; omega
theorem zm_lt {m k : Nat} (hm : m ≤ 3) (hk : k ≤ 7) : zI (m : Int) < zI ((k : Int) - m) ↔ 2 * m < k := by
  rw [zI_lt (by omega) (by omega) (by omega) (by omega)]; omega
theorem r_cls {m : Nat} (hm : m ≤ 3) {xf xl : Nat → Int32} {n1 n2 : Nat} {Sf Mf : Int → Int → Int}
    (hb : ∀ a d, rIn 3 a d → (0 ≤ Sf a d ∧ Sf a d ≤ 146880) ∧ (1 ≤ Mf a d ∧ Mf a d ≤ 576))
    (hc : ∀ a d, rIn 3 a d → p_Pic_compareAt (zI w) (zI h) n1 xf n2 xl (zI a) (zI d) 0 0 = some (zI (Sf a d), zI (Mf a d))) (t0 t1 t2 t3 : Int32) :
    ∃ (ra rd : Int) (x t0' t1' t2' t3' : Int32), rIn m ra rd ∧ pu_loop (p_Pic_register_L3 (zI m) (zI w) (zI h) n1 xf n2 xl) (-zI m, 0, 0, zI (Sf 0 0), zI (Mf 0 0), t0, t1, t2, t3) = some (x, zI ra, zI rd, zI (Sf ra rd), zI (Mf ra rd), t0', t1', t2', t3') ∧ ∀ a d, rIn m a d → ¬ Bt Sf Mf a d ra rd := by
  -- the inner loop
  have inner : ∀ (A ra rd : Int) (t0 t1 t2 t3 : Int32), -(m : Int) ≤ A → A ≤ m → rIn m ra rd → (∀ a d, (a = 0 ∧ d = 0) ∨ rPr m A (-(m : Int)) a d → ¬ Bt Sf Mf a d ra rd) →
      ∃ (ra' rd' : Int) (x t0' t1' t2' t3' : Int32), rIn m ra' rd' ∧ pu_loop (p_Pic_register_L13 (zI m) (zI w) (zI h) n1 xf n2 xl (zI A)) (-zI m, zI ra, zI rd, zI (Sf ra rd), zI (Mf ra rd), t0, t1, t2, t3) = some (x, zI ra', zI rd', zI (Sf ra' rd'), zI (Mf ra' rd'), t0', t1', t2', t3') ∧ ∀ a d, (a = 0 ∧ d = 0) ∨ rPr m (A + 1) (-(m : Int)) a d → ¬ Bt Sf Mf a d ra' rd' := by
    intro A ra rd t0 t1 t2 t3 hA1 hA2 hr hI
    have := pu_for (f := p_Pic_register_L13 (zI m) (zI w) (zI h) n1 xf n2 xl (zI A)) (σ := Int × Int × Int32 × Int32 × Int32 × Int32) (fun j s => (zI ((j : Int) - m), zI s.1, zI s.2.1, zI (Sf s.1 s.2.1), zI (Mf s.1 s.2.1), s.2.2.1, s.2.2.2.1, s.2.2.2.2.1, s.2.2.2.2.2)) (fun j s => rIn m s.1 s.2.1 ∧ ∀ a d, (a = 0 ∧ d = 0) ∨ rPr m A ((j : Int) - m) a d → ¬ Bt Sf Mf a d s.1 s.2.1)
      (fun e => ∃ (ra' rd' : Int) (x t0' t1' t2' t3' : Int32), rIn m ra' rd' ∧ e = (x, zI ra', zI rd', zI (Sf ra' rd'), zI (Mf ra' rd'), t0', t1', t2', t3') ∧ ∀ a d, (a = 0 ∧ d = 0) ∨ rPr m (A + 1) (-(m : Int)) a d → ¬ Bt Sf Mf a d ra' rd') (2 * m + 1) (by
      rintro j ⟨ra, rd, t0, t1, t2, t3⟩ hj ⟨hr, hI⟩
      dsimp only at hr hI ⊢
      refine Or.inl ?_
      unfold p_Pic_register_L13 p_Shift_moveTo p_Shift_become
      dsimp only
      have ht : rIn 3 A ((j : Int) - m) := by unfold rIn; omega
      have hr3 : rIn 3 ra rd := by unfold rIn at hr ⊢; omega
      rw [if_neg (by rw [zm_lt hm (by omega)]; omega)]
      simp only [Option.bind_some, hc A _ ht]
      obtain ⟨b1, b2⟩ := hb _ _ ht
      obtain ⟨b3, b4⟩ := hb _ _ hr3
      unfold rIn at ht hr3
      obtain ⟨v, hv, hq⟩ := q_better (a := A) (d := (j : Int) - m) (a' := ra) (d' := rd) b1 b2 b3 b4 (by omega) (by omega) (by omega) (by omega) (by omega) (by omega) (by omega) (by omega)
      rw [hv, zm_s]
      simp only [Option.bind_some]
      rcases hq with ⟨rfl, hq⟩ | ⟨rfl, hq⟩
      · refine ⟨(ra, rd, zI A, zI ((j : Int) - m), zI (Sf A ((j : Int) - m)), zI (Mf A ((j : Int) - m))), rfl, hr, fun a d hp => ?_⟩
        dsimp only
        by_cases e : a = A ∧ d = (j : Int) - m
        · obtain ⟨rfl, rfl⟩ := e
          exact hq
        · exact hI a d (by unfold rPr rIn at hp ⊢; omega)
      · refine ⟨(A, (j : Int) - m, zI A, zI ((j : Int) - m), zI (Sf A ((j : Int) - m)), zI (Mf A ((j : Int) - m))), rfl, show rIn m A ((j : Int) - m) by unfold rIn; omega, fun a d hp => ?_⟩
        dsimp only
        by_cases e : a = A ∧ d = (j : Int) - m
        · obtain ⟨rfl, rfl⟩ := e
          exact Bt_irr _ _
        · have hn := hI a d (by unfold rPr rIn at hp ⊢; omega)
          intro hbt
          have ha3 : rIn 3 a d := by unfold rPr rIn at hp; unfold rIn; omega
          exact hn (bt_tr (hb _ _ ha3).2.1 b2.1 b4.1 hbt hq)) (by
      rintro ⟨ra, rd, t0, t1, t2, t3⟩ ⟨hr, hI⟩
      dsimp only at hr hI ⊢
      unfold p_Pic_register_L13
      dsimp only
      rw [if_pos (by rw [zm_lt hm (by omega)]; omega)]
      refine ⟨_, rfl, ra, rd, _, _, _, _, _, hr, rfl, fun a d hp => hI a d ?_⟩
      unfold rPr rIn at hp ⊢
      omega) (k0 := 0) (s0 := (ra, rd, t0, t1, t2, t3)) (by omega) ⟨hr, fun a d hp => hI a d (by unfold rPr rIn at hp ⊢; omega)⟩
    obtain ⟨e, h1, ra', rd', x, u0, u1, u2, u3, h2, rfl, h3⟩ := this
    refine ⟨ra', rd', x, u0, u1, u2, u3, h2, ?_, h3⟩
    rw [← h1]
    dsimp only
    rw [zI_neg]
    congr 2
    rw [show (((0 : Nat) : Int) - (m : Int)) = -(m : Int) by omega]
  have h00 : rIn m 0 0 := by unfold rIn; omega
  have := pu_for (f := p_Pic_register_L3 (zI m) (zI w) (zI h) n1 xf n2 xl) (σ := Int × Int × Int32 × Int32 × Int32 × Int32) (fun i s => (zI ((i : Int) - m), zI s.1, zI s.2.1, zI (Sf s.1 s.2.1), zI (Mf s.1 s.2.1), s.2.2.1, s.2.2.2.1, s.2.2.2.2.1, s.2.2.2.2.2)) (fun i s => rIn m s.1 s.2.1 ∧ ∀ a d, (a = 0 ∧ d = 0) ∨ rPr m ((i : Int) - m) (-(m : Int)) a d → ¬ Bt Sf Mf a d s.1 s.2.1)
    (fun e => ∃ (ra' rd' : Int) (x t0' t1' t2' t3' : Int32), rIn m ra' rd' ∧ e = (x, zI ra', zI rd', zI (Sf ra' rd'), zI (Mf ra' rd'), t0', t1', t2', t3') ∧ ∀ a d, rIn m a d → ¬ Bt Sf Mf a d ra' rd') (2 * m + 1) (by
    rintro i ⟨ra, rd, t0, t1, t2, t3⟩ hi ⟨hr, hI⟩
    dsimp only at hr hI ⊢
    refine Or.inl ?_
    unfold p_Pic_register_L3
    dsimp only
    rw [if_neg (by rw [zm_lt hm (by omega)]; omega)]
    obtain ⟨ra', rd', x, u0, u1, u2, u3, h2, h1, h3⟩ := inner ((i : Int) - m) ra rd t0 t1 t2 t3 (by omega) (by omega) hr hI
    rw [h1, zm_s]
    refine ⟨(ra', rd', u0, u1, u2, u3), rfl, h2, fun a d hp => h3 a d ?_⟩
    rw [show (((i + 1 : Nat) : Int) - (m : Int)) = ((i : Int) - m + 1) by omega] at hp
    exact hp) (by
    rintro ⟨ra, rd, t0, t1, t2, t3⟩ ⟨hr, hI⟩
    dsimp only at hr hI ⊢
    unfold p_Pic_register_L3
    dsimp only
    rw [if_pos (by rw [zm_lt hm (by omega)]; omega)]
    refine ⟨_, rfl, ra, rd, _, _, _, _, _, hr, rfl, fun a d hp => hI a d (Or.inr ⟨hp, ?_⟩)⟩
    unfold rIn at hp
    omega) (k0 := 0) (s0 := (0, 0, t0, t1, t2, t3)) (by omega) ⟨h00, fun a d hp => by
      rcases hp with ⟨rfl, rfl⟩ | hp
      · exact Bt_irr _ _
      · unfold rPr rIn at hp; omega⟩
  obtain ⟨e, h1, ra', rd', x, u0, u1, u2, u3, h2, rfl, h3⟩ := this
  refine ⟨ra', rd', x, u0, u1, u2, u3, h2, ?_, h3⟩
  rw [← h1]
  dsimp only
  rw [zI_neg]
  congr 2
  rw [show (((0 : Nat) : Int) - (m : Int)) = -(m : Int) by omega]
theorem r_mod {m : Nat} (hm : m ≤ 3) {mf ml : Nat → Int32} {n1 n2 : Nat} {Sf Mf : Int → Int → Int}
    (hb : ∀ a d, rIn 3 a d → (0 ≤ Sf a d ∧ Sf a d ≤ 146880) ∧ (1 ≤ Mf a d ∧ Mf a d ≤ 576))
    (hc : ∀ a d, rIn 3 a d → ∀ ac dn su my, p_Mod_look (zI a) (zI d) th (zI w) (zI h) re wi fl ac dn su my ab be ma sp da n1 mf n2 ml = some (zL (Sf a d), zL (Mf a d))) (t0 t1 : Int32) (t2 t3 : Int64) :
    ∃ (ra rd : Int) (x1 : Int64) (x2 x3 : Int32) (t2' t3' : Int64), rIn m ra rd ∧ pu_loop (p_Mod_register_L3 (zI m) (zI w) (zI h) re wi fl ab be ma sp da n1 mf n2 ml th) (-1, 1, 0, 0 - zI m, t0, t1, t2, t3) = some (zL (Sf ra rd), x1, x2, x3, zI ra, zI rd, t2', t3') ∧ ∀ a d, rIn m a d → ¬ Bt Sf Mf a d ra rd := by
  -- what is known of the best before (A, D)
  let J : Int → Int → (Int × Int × Int × Int32 × Int32 × Int64 × Int64) → Prop := fun A D s =>
    (s.1 = -1 ∧ s.2.1 = 1 ∧ s.2.2.1 = 0 ∧ ∀ a d, ¬ rPr m A D a d) ∨ ∃ ra rd : Int, rPr m A D ra rd ∧ s.1 = Sf ra rd ∧ s.2.1 = Mf ra rd ∧ s.2.2.1 = way ra rd ∧ s.2.2.2.1 = zI ra ∧ s.2.2.2.2.1 = zI rd ∧ ∀ a d, rPr m A D a d → ¬ Bt Sf Mf a d ra rd
  have inner : ∀ (A : Int) (s : Int × Int × Int × Int32 × Int32 × Int64 × Int64), -(m : Int) ≤ A → A ≤ m → J A (-(m : Int)) s →
      ∃ (s' : Int × Int × Int × Int32 × Int32 × Int64 × Int64) (x : Int32), pu_loop (p_Mod_register_L12 (zI m) (zI w) (zI h) re wi fl ab be ma sp da n1 mf n2 ml th (zI A)) (zL s.1, zL s.2.1, zI s.2.2.1, 0 - zI m, s.2.2.2.1, s.2.2.2.2.1, s.2.2.2.2.2.1, s.2.2.2.2.2.2) = some (zL s'.1, zL s'.2.1, zI s'.2.2.1, x, s'.2.2.2.1, s'.2.2.2.2.1, s'.2.2.2.2.2.1, s'.2.2.2.2.2.2) ∧ J (A + 1) (-(m : Int)) s' := by
    intro A s hA1 hA2 hI
    have := pu_for (f := p_Mod_register_L12 (zI m) (zI w) (zI h) re wi fl ab be ma sp da n1 mf n2 ml th (zI A)) (σ := Int × Int × Int × Int32 × Int32 × Int64 × Int64) (fun j s => (zL s.1, zL s.2.1, zI s.2.2.1, zI ((j : Int) - m), s.2.2.2.1, s.2.2.2.2.1, s.2.2.2.2.2.1, s.2.2.2.2.2.2)) (fun j s => J A ((j : Int) - m) s)
      (fun e => ∃ (s' : Int × Int × Int × Int32 × Int32 × Int64 × Int64) (x : Int32), e = (zL s'.1, zL s'.2.1, zI s'.2.2.1, x, s'.2.2.2.1, s'.2.2.2.2.1, s'.2.2.2.2.2.1, s'.2.2.2.2.2.2) ∧ J (A + 1) (-(m : Int)) s') (2 * m + 1) (by
      rintro j ⟨bs, o, f, a0, d0, s0, m0⟩ hj hI
      dsimp only at hI ⊢
      refine Or.inl ?_
      unfold p_Mod_register_L12
      dsimp only
      have ht : rIn 3 A ((j : Int) - m) := by unfold rIn; omega
      have htm : rPr m A (((j + 1 : Nat) : Int) - m) A ((j : Int) - m) := by unfold rPr rIn; omega
      rw [if_neg (by rw [zm_lt hm (by omega)]; omega), hc A _ ht]
      obtain ⟨b1, b2⟩ := hb _ _ ht
      have ht' := ht
      unfold rIn at ht'
      have hw1 := way_in (a := A) (d := (j : Int) - m) (by omega) (by omega) (by omega) (by omega)
      have ew : zI (dst A 0) + zI (dst ((j : Int) - m) 0) = zI (way A ((j : Int) - m)) := by rw [zI_add]; unfold dst way; congr 1; split <;> split <;> split <;> split <;> omega
      simp only [Option.bind_some, zl0]
      rw [q_apd (by omega) (by omega) (by omega) (by omega), q_apd (by omega) (by omega) (by omega) (by omega)]
      simp only [Option.bind_some, ew, ← zl0]
      have key : ∃ v : Int32, (if lg_cmp (zL bs) 0 < 0 then some (1 : Int32) else if lg_cmp (zL (Sf A ((j : Int) - m)) * zL o) (zL bs * zL (Mf A ((j : Int) - m))) < 0 then some 1 else if lg_cmp (zL (Sf A ((j : Int) - m)) * zL o) (zL bs * zL (Mf A ((j : Int) - m))) = 0 then (if zI f ≤ zI (way A ((j : Int) - m)) then some 0 else some 1) else some 0) = some v ∧ ((v = 0 ∧ J A (((j + 1 : Nat) : Int) - m) (bs, o, f, a0, d0, zL (Sf A ((j : Int) - m)), zL (Mf A ((j : Int) - m)))) ∨ (v = 1 ∧ J A (((j + 1 : Nat) : Int) - m) (Sf A ((j : Int) - m), Mf A ((j : Int) - m), way A ((j : Int) - m), zI A, zI ((j : Int) - m), zL (Sf A ((j : Int) - m)), zL (Mf A ((j : Int) - m))))) := by
        rcases hI with ⟨i1, i2, i3, i4⟩ | ⟨ra, rd, hr, i1, i2, i3, i4, i5, i6⟩
        · dsimp only at i1 i2 i3
          subst i1
          refine ⟨1, by rw [if_pos (by decide)], Or.inr ⟨rfl, Or.inr ⟨A, (j : Int) - m, htm, rfl, rfl, rfl, rfl, rfl, fun a d hp => ?_⟩⟩⟩
          by_cases e : a = A ∧ d = (j : Int) - m
          · obtain ⟨rfl, rfl⟩ := e
            exact Bt_irr _ _
          · exact absurd (show rPr m A ((j : Int) - m) a d by unfold rPr rIn at hp ⊢; omega) (i4 a d)
        · dsimp only at i1 i2 i3 i4 i5
          subst i1 i2 i3 i4 i5
          have hr3 : rIn 3 ra rd := by unfold rPr rIn at hr; unfold rIn; omega
          obtain ⟨b3, b4⟩ := hb _ _ hr3
          have hr3' := hr3
          unfold rIn at hr3'
          have hw2 := way_in (a := ra) (d := rd) (by omega) (by omega) (by omega) (by omega)
          have p1 : 0 ≤ Sf A ((j : Int) - m) * Mf ra rd ∧ Sf A ((j : Int) - m) * Mf ra rd ≤ 146880 * 576 := ⟨Int.mul_nonneg (by omega) (by omega), Int.mul_le_mul (by omega) (by omega) (by omega) (by omega)⟩
          have p2 : 0 ≤ Sf ra rd * Mf A ((j : Int) - m) ∧ Sf ra rd * Mf A ((j : Int) - m) ≤ 146880 * 576 := ⟨Int.mul_nonneg (by omega) (by omega), Int.mul_le_mul (by omega) (by omega) (by omega) (by omega)⟩
          have c0 : ¬ lg_cmp (zL (Sf ra rd)) 0 < 0 := by rw [lg_cmp_lt, zL0, zL_lt (by omega) (by omega) (by omega) (by omega)]; omega
          have c1 : lg_cmp (zL (Sf A ((j : Int) - m)) * zL (Mf ra rd)) (zL (Sf ra rd) * zL (Mf A ((j : Int) - m))) < 0 ↔ Sf A ((j : Int) - m) * Mf ra rd < Sf ra rd * Mf A ((j : Int) - m) := by rw [lg_cmp_lt, zL_mul, zL_mul, zL_lt (by omega) (by omega) (by omega) (by omega)]
          have c2 : lg_cmp (zL (Sf A ((j : Int) - m)) * zL (Mf ra rd)) (zL (Sf ra rd) * zL (Mf A ((j : Int) - m))) = 0 ↔ Sf A ((j : Int) - m) * Mf ra rd = Sf ra rd * Mf A ((j : Int) - m) := by rw [lg_cmp_eq, zL_mul, zL_mul, zL_eq (by omega) (by omega) (by omega) (by omega)]
          have c3 : zI (way ra rd) ≤ zI (way A ((j : Int) - m)) ↔ way ra rd ≤ way A ((j : Int) - m) := zI_le (by omega) (by omega) (by omega) (by omega)
          rw [if_neg c0]
          simp only [c1, c2, c3]
          have hB : Bt Sf Mf A ((j : Int) - m) ra rd ↔ (Sf A ((j : Int) - m) * Mf ra rd < Sf ra rd * Mf A ((j : Int) - m) ∨ (Sf A ((j : Int) - m) * Mf ra rd = Sf ra rd * Mf A ((j : Int) - m) ∧ way A ((j : Int) - m) < way ra rd)) := by
            unfold Bt bt
            unfold rPr at hr
            omega
          by_cases hq : Bt Sf Mf A ((j : Int) - m) ra rd
          · refine ⟨1, ?_, Or.inr ⟨rfl, Or.inr ⟨A, (j : Int) - m, htm, rfl, rfl, rfl, rfl, rfl, fun a d hp => ?_⟩⟩⟩
            · rw [hB] at hq
              repeat' split
              all_goals first | rfl | (exfalso; omega)
            · by_cases e : a = A ∧ d = (j : Int) - m
              · obtain ⟨rfl, rfl⟩ := e
                exact Bt_irr _ _
              · have hn := i6 a d (by unfold rPr rIn at hp ⊢; omega)
                intro hbt
                have ha3 : rIn 3 a d := by unfold rPr rIn at hp; unfold rIn; omega
                exact hn (bt_tr (hb _ _ ha3).2.1 b2.1 b4.1 hbt hq)
          · refine ⟨0, ?_, Or.inl ⟨rfl, Or.inr ⟨ra, rd, by unfold rPr rIn at hr ⊢; omega, rfl, rfl, rfl, rfl, rfl, fun a d hp => ?_⟩⟩⟩
            · rw [hB] at hq
              repeat' split
              all_goals first | rfl | (exfalso; omega)
            · by_cases e : a = A ∧ d = (j : Int) - m
              · obtain ⟨rfl, rfl⟩ := e
                exact hq
              · exact i6 a d (by unfold rPr rIn at hp ⊢; omega)
      obtain ⟨v, hv, hq⟩ := key
      rw [hv, zm_s]
      simp only [Option.bind_some]
      rcases hq with ⟨rfl, hq⟩ | ⟨rfl, hq⟩
      · exact ⟨(bs, o, f, a0, d0, zL (Sf A ((j : Int) - m)), zL (Mf A ((j : Int) - m))), rfl, hq⟩
      · exact ⟨(Sf A ((j : Int) - m), Mf A ((j : Int) - m), way A ((j : Int) - m), zI A, zI ((j : Int) - m), zL (Sf A ((j : Int) - m)), zL (Mf A ((j : Int) - m))), rfl, hq⟩) (by
      rintro ⟨bs, o, f, a0, d0, s0, m0⟩ hI
      dsimp only at hI ⊢
      unfold p_Mod_register_L12
      dsimp only
      rw [if_pos (by rw [zm_lt hm (by omega)]; omega)]
      refine ⟨_, rfl, (bs, o, f, a0, d0, s0, m0), _, rfl, ?_⟩
      rcases hI with ⟨i1, i2, i3, i4⟩ | ⟨ra, rd, hr, i1, i2, i3, i4, i5, i6⟩
      · exact Or.inl ⟨i1, i2, i3, fun a d hp => i4 a d (by unfold rPr rIn at hp ⊢; omega)⟩
      · exact Or.inr ⟨ra, rd, by unfold rPr rIn at hr ⊢; omega, i1, i2, i3, i4, i5, fun a d hp => i6 a d (by unfold rPr rIn at hp ⊢; omega)⟩) (k0 := 0) (s0 := s) (by omega) (by
      rw [show (((0 : Nat) : Int) - (m : Int)) = -(m : Int) by omega]
      exact hI)
    obtain ⟨e, h1, s', x, rfl, h3⟩ := this
    refine ⟨s', x, ?_, h3⟩
    rw [← h1]
    try dsimp only
    rw [show (0 - zI (m : Int)) = zI (((0 : Nat) : Int) - m) by rw [zl0, zI_sub]; rfl]
  have := pu_for (f := p_Mod_register_L3 (zI m) (zI w) (zI h) re wi fl ab be ma sp da n1 mf n2 ml th) (σ := Int × Int × Int × Int32 × Int32 × Int64 × Int64) (fun i s => (zL s.1, zL s.2.1, zI s.2.2.1, zI ((i : Int) - m), s.2.2.2.1, s.2.2.2.2.1, s.2.2.2.2.2.1, s.2.2.2.2.2.2)) (fun i s => J ((i : Int) - m) (-(m : Int)) s)
    (fun e => ∃ (s' : Int × Int × Int × Int32 × Int32 × Int64 × Int64) (x : Int32), e = (zL s'.1, zL s'.2.1, zI s'.2.2.1, x, s'.2.2.2.1, s'.2.2.2.2.1, s'.2.2.2.2.2.1, s'.2.2.2.2.2.2) ∧ J ((m : Int) + 1) (-(m : Int)) s') (2 * m + 1) (by
    rintro i s hi hI
    refine Or.inl ?_
    unfold p_Mod_register_L3
    dsimp only
    rw [if_neg (by rw [zm_lt hm (by omega)]; omega)]
    obtain ⟨s', x, h1, h3⟩ := inner ((i : Int) - m) s (by omega) (by omega) hI
    rw [h1, zm_s]
    refine ⟨s', rfl, ?_⟩
    rw [show (((i + 1 : Nat) : Int) - (m : Int)) = ((i : Int) - m + 1) by omega]
    exact h3) (by
    rintro s hI
    unfold p_Mod_register_L3
    dsimp only
    rw [if_pos (by rw [zm_lt hm (by omega)]; omega)]
    refine ⟨_, rfl, s, _, rfl, ?_⟩
    rw [show (((2 * m + 1 : Nat) : Int) - (m : Int)) = ((m : Int) + 1) by omega] at hI
    exact hI) (k0 := 0) (s0 := (-1, 1, 0, t0, t1, t2, t3)) (by omega) (Or.inl ⟨rfl, rfl, rfl, fun a d hp => by unfold rPr rIn at hp; omega⟩)
  obtain ⟨e, h1, s', x, rfl, h3⟩ := this
  have h1' : pu_loop (p_Mod_register_L3 (zI m) (zI w) (zI h) re wi fl ab be ma sp da n1 mf n2 ml th) (-1, 1, 0, 0 - zI m, t0, t1, t2, t3) = some (zL s'.1, zL s'.2.1, zI s'.2.2.1, x, s'.2.2.2.1, s'.2.2.2.2.1, s'.2.2.2.2.2.1, s'.2.2.2.2.2.2) := by
    rw [← h1]
    try dsimp only
    rw [show (0 - zI (m : Int)) = zI (((0 : Nat) : Int) - m) by rw [zl0, zI_sub]; rfl]
    rfl
  rcases h3 with ⟨-, -, -, i4⟩ | ⟨ra, rd, hr, i1, i2, i3, i4, i5, i6⟩
  · exact absurd (show rPr m ((m : Int) + 1) (-(m : Int)) 0 0 by unfold rPr rIn; omega) (i4 0 0)
  · exact ⟨ra, rd, zL s'.2.1, zI s'.2.2.1, x, s'.2.2.2.2.2.1, s'.2.2.2.2.2.2, hr.1, by rw [h1', i1, i4, i5], fun a d hp => i6 a d ⟨hp, by unfold rIn at hp; omega⟩⟩
/-- register: both find the same shift -/
theorem a_register (w4 : 4 ≤ w) (h4 : 4 ≤ h) (hw : w ≤ 24) (hh : h ≤ 24) (a2 : Int32) {xf xl mf ml : Nat → Int32} {ra rd rx ry t0 t1 t2 t3 ma' md' : Int32} {out : Nat → Int64} (hF : IG w h xf mf) (hG : IG w h xl ml) (hS : IS ra rd ma' md') :
    ∃ (k ra' rd' rx' ry' t0' t1' t2' t3' : Int32) (out' : Nat → Int64) (r ma'' md'' : Int32) (su' my' : Int64), p_Law_register a2 (zI w) (zI h) (w * h) xf (w * h) xl ra rd rx ry t0 t1 t2 t3 1 out = some (k, ra', rd', rx', ry', t0', t1', t2', t3', out') ∧ p_Mod_register a2 th (zI w) (zI h) re wi fl ma' md' su my ab be ma sp da 576 mf 576 ml = some (r, k, ma'', md'', su', my') ∧ (k = 0 → out' 0 = r.toInt64) ∧ IS ra' rd' ma'' md'' := by
  obtain ⟨z, rfl, z1, z2⟩ := zI_of a2
  obtain ⟨f1, f2⟩ := q_within (lo := 0) (hi := 3) z1 z2 (by omega) (by omega) (by omega) (by omega)
  rw [← zl0, ← zl3] at f1 f2
  have c1 : zI z < 0 ↔ z < 0 := by rw [zl0]; exact zI_lt z1 z2 (by omega) (by omega)
  have c2 : zI z ≤ 3 ↔ z ≤ 3 := by rw [zl3]; exact zI_le z1 z2 (by omega) (by omega)
  unfold p_Law_register p_Pic_register p_Mod_register
  simp only [c1, c2]
  by_cases hz : 0 ≤ z ∧ z ≤ 3
  · rw [f1 hz, if_neg (by omega), if_pos (by omega)]
    obtain ⟨m, rfl⟩ : ∃ m : Nat, z = m := ⟨z.toNat, by omega⟩
    obtain ⟨F, hF⟩ := IG_f hF
    obtain ⟨K, hK⟩ := IG_f hG
    have hb : ∀ a d, rIn 3 a d → (0 ≤ tS w h F K a d ∧ tS w h F K a d ≤ 146880) ∧ (1 ≤ tM w h a d ∧ tM w h a d ≤ 576) := fun a d hr => by
      unfold rIn at hr
      exact tSM_in w4 h4 hw hh (fun x y hx hy => ⟨(hF x y hx hy).1, (hF x y hx hy).2.1⟩) (fun x y hx hy => ⟨(hK x y hx hy).1, (hK x y hx hy).2.1⟩) (by omega) (by omega) (by omega) (by omega)
    have hc : ∀ a d, rIn 3 a d → p_Pic_compareAt (zI w) (zI h) (w * h) xf (w * h) xl (zI a) (zI d) 0 0 = some (zI (tS w h F K a d), zI (tM w h a d)) := fun a d hr => by
      unfold rIn at hr
      exact cmp_cls hw hh (by omega) (by omega) (by omega) (by omega) (fun x y hx hy => ⟨(hF x y hx hy).1, (hF x y hx hy).2.1, (hF x y hx hy).2.2.1⟩) (fun x y hx hy => ⟨(hK x y hx hy).1, (hK x y hx hy).2.1, (hK x y hx hy).2.2.1⟩)
    have hm : ∀ a d, rIn 3 a d → ∀ ac dn su my, p_Mod_look (zI a) (zI d) 0 (zI w) (zI h) re wi fl ac dn su my ab be ma sp da 576 mf 576 ml = some (zL (tS w h F K a d), zL (tM w h a d)) := fun a d hr ac dn su my => by
      unfold rIn at hr
      exact cmp_mod hw hh (by omega) (by omega) (by omega) (by omega) (fun x y hx hy => ⟨(hF x y hx hy).1, (hF x y hx hy).2.1, (hF x y hx hy).2.2.2⟩) (fun x y hx hy => ⟨(hK x y hx hy).1, (hK x y hx hy).2.1, (hK x y hx hy).2.2.2⟩)
    obtain ⟨pa, pd, x, u0, u1, u2, u3, p1, p2, p3⟩ := r_cls (w := w) (h := h) (m := m) (by omega) hb hc t0 t1 t2 t3
    obtain ⟨qa, qd, x1, x2, x3, v2, v3, q1, q2, q3⟩ := r_mod (w := w) (h := h) (m := m) (by omega) hb hm ma' md' su my
    have e : pa = qa ∧ pd = qd := by
      have n1 := p3 _ _ q1
      have n2 := q3 _ _ p1
      unfold Bt bt at n1 n2
      omega
    obtain ⟨rfl, rfl⟩ := e
    have h0 : p_Pic_compareAt (zI w) (zI h) (w * h) xf (w * h) xl 0 0 0 0 = some (zI (tS w h F K 0 0), zI (tM w h 0 0)) := hc 0 0 (by unfold rIn; omega)
    unfold p_Shift_moveTo
    simp only [Option.bind_some, gs_ok, one0, if_false, h0, p2, q2, pu_gt in01]
    have hb' := (hb pa pd (by unfold rIn at p1 ⊢; omega)).1
    refine ⟨_, _, _, _, _, _, _, _, _, _, _, _, _, _, _, rfl, rfl, fun _ => ?_, ?_⟩
    · rw [up0, zL_i (by omega) (by omega)]
    · unfold rIn at p1
      exact ⟨pa, pd, by omega, by omega, by omega, by omega, rfl, rfl, rfl, rfl⟩
  · rw [f2 hz]
    have : (if z < 0 then (some (Sum.inl 1) : Option (Nat ⊕ (Int32 × Int32 × Int32 × Int32 × Int32 × Int32 × Int32 × Int32 × Int32))) else if z ≤ 3 then none else some (Sum.inl 1)) = some (.inl 1) := by
      split
      · rfl
      · rw [if_neg (by omega)]
    simp only [Option.bind_some, gs_1, if_true]
    by_cases hn : z < 0
    · rw [if_pos hn]
      exact ⟨1, ra, rd, rx, ry, t0, t1, t2, t3, out, 0, ma', md', su, my, rfl, rfl, fun q => absurd q (by decide), hS⟩
    · rw [if_neg hn, if_neg (by omega)]
      exact ⟨1, ra, rd, rx, ry, t0, t1, t2, t3, out, 0, ma', md', su, my, rfl, rfl, fun q => absurd q (by decide), hS⟩
end AQ
