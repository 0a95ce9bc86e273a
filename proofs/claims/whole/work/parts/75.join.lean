/-! PURE SIDE: the first cells of spots, their number; the class joins them in order -/
def Rt (dk : Nat → Prop) (r : Nat) : Prop := dk r ∧ ∀ q, dk q → Cn dk r q → r ≤ q
def Cm (dk : Nat → Prop) (r p : Nat) : Prop := dk p ∧ Cn dk r p
noncomputable def cn (dk : Nat → Prop) : Nat → Nat
  | 0 => 0
  | n + 1 => cn dk n + @ite _ (Rt dk n) (Classical.propDecidable _) 1 0
section AJ
variable {w h : Nat} {dk : Nat → Prop}
theorem cn_t {n : Nat} (h : Rt dk n) : cn dk (n + 1) = cn dk n + 1 := by
  show cn dk n + _ = _
  rw [if_pos h]
theorem cn_f {n : Nat} (h : ¬ Rt dk n) : cn dk (n + 1) = cn dk n := by
  show cn dk n + _ = _
  rw [if_neg h]
  omega
theorem cn_cut {m : Nat} : ∀ {n : Nat}, m ≤ n → (∀ k, m ≤ k → k < n → ¬ Rt dk k) → cn dk n = cn dk m := by
  intro n
  induction n with
  | zero => intro h1 _; rw [show m = 0 by omega]
  | succ n ih =>
    intro h1 h2
    by_cases e : m = n + 1
    · rw [e]
    · rw [cn_f (h2 n (by omega) (by omega)), ih (by omega) (fun k a b => h2 k a (by omega))]
theorem cn_m {m : Nat} : ∀ {n : Nat}, m ≤ n → cn dk m ≤ cn dk n := by
  intro n
  induction n with
  | zero => intro h1; rw [show m = 0 by omega]; omega
  | succ n ih =>
    intro h1
    by_cases e : m = n + 1
    · rw [e]; omega
    · have := ih (by omega)
      by_cases hr : Rt dk n
      · rw [cn_t hr]; omega
      · rw [cn_f hr]; omega
theorem cn_l {r Q : Nat} (hr : Rt dk r) (h : r < Q) : cn dk r < cn dk Q := by
  have h1 := cn_t hr
  have h2 : cn dk (r + 1) ≤ cn dk Q := cn_m (by omega)
  omega
theorem cn_k {i : Nat} : ∀ {Q : Nat}, i < cn dk Q → ∃ r, r < Q ∧ Rt dk r ∧ cn dk r = i := by
  intro Q
  induction Q with
  | zero => intro h; exact absurd h (Nat.not_lt_zero i)
  | succ Q ih =>
    intro h
    by_cases hr : Rt dk Q
    · rw [cn_t hr] at h
      by_cases e : i = cn dk Q
      · exact ⟨Q, by omega, hr, e.symm⟩
      · obtain ⟨r, h1, h2, h3⟩ := ih (by omega)
        exact ⟨r, by omega, h2, h3⟩
    · rw [cn_f hr] at h
      obtain ⟨r, h1, h2, h3⟩ := ih h
      exact ⟨r, by omega, h2, h3⟩
theorem cn_i {r r' : Nat} (hr : Rt dk r) (hr' : Rt dk r') (e : cn dk r = cn dk r') : r = r' := by
  by_cases h1 : r < r'
  · have := cn_l hr h1
    omega
  · by_cases h2 : r' < r
    · have := cn_l hr' h2
      omega
    · omega
theorem Rt_ex : ∀ (n p : Nat), p ≤ n → dk p → ∃ r, Rt dk r ∧ Cn dk r p ∧ r ≤ p := by
  intro n
  induction n with
  | zero =>
    intro p hp hd
    exact ⟨p, ⟨hd, fun q _ _ => by omega⟩, Cn_r p, by omega⟩
  | succ n ih =>
    intro p hp hd
    by_cases hr : Rt dk p
    · exact ⟨p, hr, Cn_r p, by omega⟩
    · have : ∃ q, dk q ∧ Cn dk p q ∧ q < p := by
        apply Classical.byContradiction
        intro hno
        exact hr ⟨hd, fun q hq hc => by
          apply Classical.byContradiction
          intro hlt
          exact hno ⟨q, hq, hc, by omega⟩⟩
      obtain ⟨q, hq, hc, hlt⟩ := this
      obtain ⟨r, r1, r2, r3⟩ := ih q (by omega) hq
      exact ⟨r, r1, Cn_t r2 (Cn_s hc), by omega⟩
theorem Rt_u {r r' p : Nat} (hr : Rt dk r) (hr' : Rt dk r') (h : Cn dk r p) (h' : Cn dk r' p) : r = r' := by
  have h1 := hr.2 r' hr'.1 (Cn_t h (Cn_s h'))
  have h2 := hr'.2 r hr.1 (Cn_t h' (Cn_s h))
  omega
/-- two first cells are never neighbours: at most half of the cells, rounded up -/
theorem cn_b (hd : ∀ p, dk p → p < 576 ∧ gr w h p) : cn dk 576 ≤ (w * h + 1) / 2 := by
  have hc : ∃ c : Nat → Nat, ∀ i, i < cn dk 576 → c i < 576 ∧ Rt dk (c i) ∧ cn dk (c i) = i :=
    ⟨fun i => @dite _ (i < cn dk 576) (Classical.propDecidable _) (fun h => Classical.choose (cn_k h)) (fun _ => 0), fun i hi => by
      dsimp only
      rw [dif_pos hi]
      exact Classical.choose_spec (cn_k hi)⟩
  obtain ⟨c, hc⟩ := hc
  have eh : w * h = 2 * (w * (h / 2)) + w * (h % 2) := by
    have : h = 2 * (h / 2) + h % 2 := by omega
    calc w * h = w * (2 * (h / 2) + h % 2) := by rw [← this]
      _ = 2 * (w * (h / 2)) + w * (h % 2) := by rw [Nat.mul_add, Nat.mul_left_comm]
  have ec : (h / 2) * w = w * (h / 2) := Nat.mul_comm _ _
  have gg : ∀ i, i < cn dk 576 → c i % 24 < w ∧ c i / 24 < h := fun i hi => by
    have := (hd _ (hc i hi).2.1.1).2
    unfold gr at this
    exact this
  refine pigeon _ _ (fun i => if c i / 24 < 2 * (h / 2) then (c i / 24 / 2) * w + c i % 24 else (h / 2) * w + (c i % 24) / 2) (fun i hi => ?_) (fun i k hi hk e => ?_)
  · try dsimp only
    obtain ⟨g1, g2⟩ := gg i hi
    by_cases hy : c i / 24 < 2 * (h / 2)
    · rw [if_pos hy]
      have := g_lt (w := w) (h := h / 2) (x := c i % 24) (y := c i / 24 / 2) g1 (by omega)
      omega
    · rw [if_neg hy]
      have e1 : h % 2 = 1 := by omega
      rw [e1, Nat.mul_one] at eh
      omega
  · try dsimp only at e
    obtain ⟨g1, g2⟩ := gg i hi
    obtain ⟨g3, g4⟩ := gg k hk
    obtain ⟨a1, a2, a3⟩ := hc i hi
    obtain ⟨b1, b2, b3⟩ := hc k hk
    have key : c i = c k ∨ ad (c i) (c k) := by
      by_cases hy : c i / 24 < 2 * (h / 2)
      · rw [if_pos hy] at e
        by_cases hy' : c k / 24 < 2 * (h / 2)
        · rw [if_pos hy'] at e
          obtain ⟨e1, e2⟩ := g_inj g1 g3 e
          unfold ad
          omega
        · rw [if_neg hy'] at e
          have := g_lt (w := w) (h := h / 2) (x := c i % 24) (y := c i / 24 / 2) g1 (by omega)
          omega
      · rw [if_neg hy] at e
        by_cases hy' : c k / 24 < 2 * (h / 2)
        · rw [if_pos hy'] at e
          have := g_lt (w := w) (h := h / 2) (x := c k % 24) (y := c k / 24 / 2) g3 (by omega)
          omega
        · rw [if_neg hy'] at e
          unfold ad
          omega
    have ee : c i = c k := by
      rcases key with e | e
      · exact e
      · exact Rt_u a2 b2 (Cn_a a2.1 b2.1 e) (Cn_r _)
    rw [← a3, ← b3, ee]
def JS (w h : Nat) (dk : Nat → Prop) (Q : Nat) (s : Nat → Int32) : Prop := (∀ p, gr w h p → ¬ dk p → sv w s p = -1) ∧ ∀ r p, Rt dk r → dk p → Cn dk r p → (r < Q → sv w s p = zI (cn dk r : Int)) ∧ (Q ≤ r → sv w s p = -2)
def FO (w h : Nat) (dk : Nat → Prop) (Cg : Nat → Int) (Q : Nat) (ft : Nat → Int32) : Prop := ∀ r, r < Q → Rt dk r → SF w h dk (Cm dk r) Cg (fun j => ft (cn dk r * 7 + j))
theorem SF_c {C : Nat → Prop} {Cg : Nat → Int} {f f' : Nat → Int32} (h1 : SF w h dk C Cg f) (h2 : ∀ j, j < 7 → f' j = f j) : SF w h dk C Cg f' := by
  unfold SF at h1 ⊢
  rw [h2 0 (by omega), h2 1 (by omega), h2 2 (by omega), h2 3 (by omega), h2 4 (by omega), h2 5 (by omega), h2 6 (by omega)]
  exact h1
theorem JS_c {m n : Nat} {s : Nat → Int32} (hmn : m ≤ n) (hz : ∀ k, m ≤ k → k < n → ¬ Rt dk k) (hJ : JS w h dk m s) : JS w h dk n s := by
  refine ⟨hJ.1, fun r p hr hp hc => ⟨fun hlt => ?_, fun hle => ?_⟩⟩
  · exact (hJ.2 r p hr hp hc).1 (by
      apply Classical.byContradiction
      intro hge
      exact hz r (by omega) hlt hr)
  · exact (hJ.2 r p hr hp hc).2 (by omega)
theorem FO_c {m n : Nat} {ft : Nat → Int32} {Cg : Nat → Int} (hz : ∀ k, m ≤ k → k < n → ¬ Rt dk k) (hJ : FO w h dk Cg m ft) : FO w h dk Cg n ft := by
  intro r hr hR
  exact hJ r (by
    apply Classical.byContradiction
    intro hge
    exact hz r (by omega) hr hR) hR
theorem m2F {i : Nat} (hi : i ≤ 1000) : ¬ (-2 : Int32) = zI (i : Int) := fun e => zF2 hi e.symm
theorem j_step (hw : w ≤ 24) (hh : h ≤ 24) (hd : ∀ p, dk p → p < 576 ∧ gr w h p) {Cg : Nat → Int} {x y N : Nat} {s jx jy ch ft : Nat → Int32} {jn mk : Int32} (hx : x < w) (hy : y < h) (hJ : JS w h dk (24 * y + x) s) (hO : FO w h dk Cg (24 * y + x) ft) (hG : ∀ p, dk p → sv w ch p = zI (Cg p)) (hN : N = 7 * ((w * h + 1) / 2)) :
    ∃ (jn' : Int32) (s' jx' jy' ft' : Nat → Int32), p_Spots_join_L9 (zI w) (zI h) mk (w * h) (w * h) ch (w * h) (w * h) N (zI y) (zI x, jn, zI (cn dk (24 * y + x) : Int), s, jx, jy, ft) = some (.inl (zI ((x + 1 : Nat) : Int), jn', zI (cn dk (24 * y + (x + 1)) : Int), s', jx', jy', ft')) ∧ JS w h dk (24 * y + (x + 1)) s' ∧ FO w h dk Cg (24 * y + (x + 1)) ft' := by
  have hwh := g_wh hw hh
  have hg : gr w h (24 * y + x) := by unfold gr; omega
  have m1 : (24 * y + x) % 24 = x := by omega
  have m2 : (24 * y + x) / 24 = y := by omega
  have hb := cn_b hd
  have hle : ∀ Q, Q ≤ 576 → cn dk Q ≤ 1000 := fun Q hQ => by
    have : cn dk Q ≤ cn dk 576 := cn_m hQ
    omega
  generalize hQ : 24 * y + x = Q at hJ hO hg m1 m2
  rw [show 24 * y + (x + 1) = Q + 1 by omega]
  have hF := hle Q (by omega)
  obtain ⟨t, -⟩ := @q_spotAt w h hw hh (x : Int) (y : Int) (by omega) (by omega) (by omega) (by omega) jn (zI (cn dk Q : Int)) mk s
  unfold p_Spots_join_L9
  dsimp only
  rw [if_neg (by rw [zn_le (by omega) (by omega)]; omega), t Q hg (by rw [m1]) (by rw [m2])]
  simp only [Option.bind_some]
  by_cases hR : Rt dk Q
  · have e2 : sv w s Q = -2 := (hJ.2 Q Q hR hR.1 (Cn_r Q)).2 (by omega)
    have hc1 := cn_t hR
    have hc2 : cn dk (Q + 1) ≤ cn dk 576 := cn_m (by omega)
    have k7 : (zI (cn dk Q : Int) + 1) * 7 = zI (((cn dk Q + 1) * 7 : Nat) : Int) := by rw [zI_s, zl7, zI_mul]; congr 1
    rw [if_pos e2, k7, show Int32.ofNat N = zI (N : Int) from zI_nat N, if_neg (by rw [zn_lt (by omega) (by omega)]; omega)]
    have hs0 : ∀ p, gr w h p → sv w s p = -2 → dk p := fun p hp e => by
      apply Classical.byContradiction
      intro hn
      rw [hJ.1 p hp hn] at e
      exact absurd e (by decide)
    have hn0 : ∀ p, gr w h p → ¬ sv w s p = zI (cn dk Q : Int) := fun p hp e => by
      by_cases hdp : dk p
      · obtain ⟨r, r1, r2, r3⟩ := Rt_ex p p (by omega) hdp
        obtain ⟨j1, j2⟩ := hJ.2 r p r1 hdp r2
        have hp5 := (hd p hdp).1
        by_cases hlt : r < Q
        · rw [j1 hlt] at e
          have := cn_l r1 hlt
          rw [zn_eq (by omega) (by omega)] at e
          omega
        · rw [j2 (by omega)] at e
          exact m2F hF e
      · rw [hJ.1 p hp hdp] at e
        exact zF1 hF e.symm
    obtain ⟨n, s', jx', jy', k1, ⟨f1, f2, f3, f4, f5⟩, k3, k4⟩ := f_join (jx := jx) (jy := jy) (jn := jn) (mk := mk) hw hh hd hF hg hs0 hn0 e2
    rw [m1, m2] at k1
    rw [k1]
    simp only [Option.bind_some]
    -- the spot is all that hangs together with its first cell
    have hown : ∀ p, gr w h p → sv w s' p = zI (cn dk Q : Int) → ∃ k, k < n ∧ pl jx' jy' k = p := fun p hp e => (ls_in f2 (gr5 hh hp)).mp (ic_t ⟨hp, e⟩)
    have hcl : ∀ p q, dk p → dk q → ad p q → sv w s' p = zI (cn dk Q : Int) → sv w s' q = zI (cn dk Q : Int) := fun p q hp hq ha e => by
      obtain ⟨k, hk, rfl⟩ := hown p (hd p hp).2 e
      have hne := k4 k hk q hq ha
      rcases f4 q (hd q hq).2 with e' | ⟨-, e'⟩
      · exfalso
        obtain ⟨r, r1, r2, r3⟩ := Rt_ex q q (by omega) hq
        obtain ⟨j1, j2⟩ := hJ.2 r q r1 hq r2
        have c1 := (f5 _ (hd _ hp).2 e).2
        have c2 := Cn_t c1 (Cn_a hp hq ha)
        have := Rt_u r1 hR r2 c2
        subst this
        rw [e', j2 (by omega)] at hne
        exact hne rfl
      · exact e'
    have hall : ∀ p, gr w h p ∧ sv w s' p = zI (cn dk Q : Int) ↔ Cm dk Q p := fun p => by
      constructor
      · rintro ⟨hp, e⟩
        exact f5 p hp e
      · rintro ⟨hp, hc⟩
        refine ⟨(hd p hp).2, ?_⟩
        have := hc (fun q => @ite _ (sv w s' q = zI (cn dk Q : Int)) (Classical.propDecidable _) 1 0) (fun a b ha hb hab => by
          try dsimp only
          by_cases e : sv w s' a = zI (cn dk Q : Int)
          · rw [if_pos e, if_pos (hcl a b ha hb hab e)]
          · rw [if_neg e, if_neg (fun z => e (hcl b a hb ha (ad_sym hab) z))])
        try dsimp only at this
        rw [if_pos k3] at this
        apply Classical.byContradiction
        intro hne
        rw [if_neg hne] at this
        omega
    have eown : own w h s' (cn dk Q) = fun p => ic (Cm dk Q p) := by
      funext p
      exact ic_c (hall p)
    rw [eown] at f2
    have hn1 : 0 < n := by
      obtain ⟨k, hk, -⟩ := hown Q hg k3
      omega
    obtain ⟨ft', d1, d2, d3⟩ := d_desc (dk := dk) (Cg := Cg) (mk := mk) (ft := ft) (ch := ch) (s := s') (N := N) hw hh hF f2 f1 hn1 f3 (fun p hp => ⟨(hd p hp.1).2, fun q hq ha => ⟨fun e => (f5 q hq e).1, fun hq' => hcl p q hp.1 hq' ha ((hall p).mpr hp).2⟩⟩) (fun p hp => hG p hp.1) (by omega)
    rw [d1]
    simp only [Option.bind_some, zI_s]
    refine ⟨_, _, _, _, _, by rw [hc1], ⟨fun p hp hdp => ?_, fun r p hr hdp hc => ⟨fun hlt => ?_, fun hle => ?_⟩⟩, fun r hr hRr => ?_⟩
    · have e0 := hJ.1 p hp hdp
      rcases f4 p hp with e' | ⟨e', -⟩
      · rw [e', e0]
      · rw [e0] at e'
        exact absurd e' (by decide)
    · by_cases er : r = Q
      · subst er
        exact ((hall p).mpr ⟨hdp, hc⟩).2
      · have e0 := (hJ.2 r p hr hdp hc).1 (by omega)
        rcases f4 p (hd p hdp).2 with e' | ⟨e', -⟩
        · rw [e', e0]
        · rw [e0] at e'
          exact absurd e' (zF2 (hle r (by omega)))
    · have e0 := (hJ.2 r p hr hdp hc).2 (by omega)
      rcases f4 p (hd p hdp).2 with e' | ⟨-, e'⟩
      · rw [e', e0]
      · have := Rt_u hr hR hc (f5 p (hd p hdp).2 e').2
        omega
    · by_cases er : r = Q
      · subst er
        exact d2
      · have := cn_l hRr (show r < Q by omega)
        exact SF_c (hO r (by omega) hRr) (fun j hj => d3 _ (by omega))
  · have hne : ¬ sv w s Q = -2 := fun e => by
      by_cases hdp : dk Q
      · obtain ⟨r, r1, r2, r3⟩ := Rt_ex Q Q (by omega) hdp
        by_cases er : r = Q
        · subst er
          exact hR r1
        · rw [(hJ.2 r Q r1 hdp r2).1 (by omega)] at e
          exact zF2 (hle r (by omega)) e
      · rw [hJ.1 Q hg hdp] at e
        exact absurd e (by decide)
    rw [if_neg hne, zI_s, cn_f hR]
    have hz : ∀ k, Q ≤ k → k < Q + 1 → ¬ Rt dk k := fun k a b => by
      rw [show k = Q by omega]; exact hR
    exact ⟨_, _, _, _, _, rfl, JS_c (by omega) hz hJ, FO_c hz hO⟩
theorem j_all (hw : w ≤ 24) (hh : h ≤ 24) (hd : ∀ p, dk p → p < 576 ∧ gr w h p) {Cg : Nat → Int} {N : Nat} {s jx jy ch ft : Nat → Int32} {jn mk : Int32} (hs : ∀ p, gr w h p → (dk p → sv w s p = -2) ∧ (¬ dk p → sv w s p = -1)) (hG : ∀ p, dk p → sv w ch p = zI (Cg p)) (hN : N = 7 * ((w * h + 1) / 2)) :
    ∃ (jn' : Int32) (s' jx' jy' ft' : Nat → Int32), p_Spots_join (zI w) (zI h) jn 0 mk (w * h) s (w * h) ch (w * h) jx (w * h) jy N ft = some (jn', zI (cn dk 576 : Int), s', jx', jy', ft') ∧ JS w h dk 576 s' ∧ FO w h dk Cg 576 ft' := by
  have hlast : ∀ y, y < h → ∀ k, 24 * y + w ≤ k → k < 24 * (y + 1) → ¬ Rt dk k := fun y hy k a b hr => by
    have := (hd k hr.1).2
    unfold gr at this
    omega
  have hend : ∀ k, 24 * h ≤ k → k < 576 → ¬ Rt dk k := fun k a b hr => by
    have := (hd k hr.1).2
    unfold gr at this
    omega
  have := pu_for (f := p_Spots_join_L1 (zI w) (zI h) mk (w * h) (w * h) ch (w * h) (w * h) N) (σ := Int32 × (Nat → Int32) × (Nat → Int32) × (Nat → Int32) × (Nat → Int32)) (fun y q => (zI (y : Int), q.1, zI (cn dk (24 * y) : Int), q.2.1, q.2.2.1, q.2.2.2.1, q.2.2.2.2)) (fun y q => JS w h dk (24 * y) q.2.1 ∧ FO w h dk Cg (24 * y) q.2.2.2.2)
    (fun e => ∃ (z jn' : Int32) (s' jx' jy' ft' : Nat → Int32), e = (z, jn', zI (cn dk 576 : Int), s', jx', jy', ft') ∧ JS w h dk 576 s' ∧ FO w h dk Cg 576 ft') h (by
    rintro y ⟨jn, s, jx, jy, ft⟩ hy ⟨hJ, hO⟩
    dsimp only at hJ hO ⊢
    refine Or.inl ?_
    unfold p_Spots_join_L1
    dsimp only
    rw [if_neg (by rw [zn_le (by omega) (by omega)]; omega)]
    have := pu_for (f := p_Spots_join_L9 (zI w) (zI h) mk (w * h) (w * h) ch (w * h) (w * h) N (zI y)) (σ := Int32 × (Nat → Int32) × (Nat → Int32) × (Nat → Int32) × (Nat → Int32)) (fun x q => (zI (x : Int), q.1, zI (cn dk (24 * y + x) : Int), q.2.1, q.2.2.1, q.2.2.2.1, q.2.2.2.2)) (fun x q => JS w h dk (24 * y + x) q.2.1 ∧ FO w h dk Cg (24 * y + x) q.2.2.2.2)
      (fun e => ∃ (z jn' : Int32) (s' jx' jy' ft' : Nat → Int32), e = (z, jn', zI (cn dk (24 * y + w) : Int), s', jx', jy', ft') ∧ JS w h dk (24 * y + w) s' ∧ FO w h dk Cg (24 * y + w) ft') w (by
      rintro x ⟨jn, s, jx, jy, ft⟩ hx ⟨hJ, hO⟩
      dsimp only at hJ hO ⊢
      obtain ⟨jn', s', jx', jy', ft', a1, a2, a3⟩ := j_step (jx := jx) (jy := jy) (jn := jn) (mk := mk) hw hh hd hx hy hJ hO hG hN
      exact Or.inl ⟨(jn', s', jx', jy', ft'), a1, a2, a3⟩) (by
      rintro ⟨jn, s, jx, jy, ft⟩ ⟨hJ, hO⟩
      dsimp only at hJ hO ⊢
      unfold p_Spots_join_L9
      dsimp only
      rw [if_pos (by rw [zn_le (by omega) (by omega)]; omega)]
      exact ⟨_, rfl, _, _, _, _, _, _, rfl, hJ, hO⟩) (k0 := 0) (s0 := (jn, s, jx, jy, ft)) (by omega) ⟨hJ, hO⟩
    obtain ⟨e, h1, z, jn', s', jx', jy', ft', rfl, h2, h3⟩ := this
    have h1' : pu_loop (p_Spots_join_L9 (zI w) (zI h) mk (w * h) (w * h) ch (w * h) (w * h) N (zI y)) (0, jn, zI (cn dk (24 * y) : Int), s, jx, jy, ft) = some (z, jn', zI (cn dk (24 * y + w) : Int), s', jx', jy', ft') := h1
    rw [h1']
    simp only [Option.bind_some, zI_s]
    refine ⟨(jn', s', jx', jy', ft'), ?_, JS_c (by omega) (hlast y hy) h2, FO_c (hlast y hy) h3⟩
    rw [cn_cut (show 24 * y + w ≤ 24 * (y + 1) by omega) (hlast y hy)]) (by
    rintro ⟨jn, s, jx, jy, ft⟩ ⟨hJ, hO⟩
    dsimp only at hJ hO ⊢
    unfold p_Spots_join_L1
    dsimp only
    rw [if_pos (by rw [zn_le (by omega) (by omega)]; omega)]
    refine ⟨_, rfl, zI (h : Int), jn, s, jx, jy, ft, ?_, JS_c (by omega) hend hJ, FO_c hend hO⟩
    rw [cn_cut (show 24 * h ≤ 576 by omega) hend]) (k0 := 0) (s0 := (jn, s, jx, jy, ft)) (by omega) ⟨⟨fun p hp hn => (hs p hp).2 hn, fun r p hr hp hc => ⟨fun hlt => by omega, fun _ => (hs p (hd p hp).2).1 hp⟩⟩, fun r hr => by omega⟩
  obtain ⟨e, h1, z, jn', s', jx', jy', ft', rfl, h2, h3⟩ := this
  have h1' : pu_loop (p_Spots_join_L1 (zI w) (zI h) mk (w * h) (w * h) ch (w * h) (w * h) N) (0, jn, 0, s, jx, jy, ft) = some (z, jn', zI (cn dk 576 : Int), s', jx', jy', ft') := h1
  unfold p_Spots_join
  rw [h1']
  exact ⟨jn', s', jx', jy', ft', rfl, h2, h3⟩
end AJ
