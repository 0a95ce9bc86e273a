/-! PURE SIDE: spots, the class's way: a spot is filled from its first cell -/
noncomputable def ic (P : Prop) : Int := @ite _ P (Classical.propDecidable P) 1 0
theorem ic_t {P : Prop} (h : P) : ic P = 1 := if_pos h
theorem ic_f {P : Prop} (h : ¬ P) : ic P = 0 := if_neg h
theorem ic_01 (P : Prop) : ic P = 0 ∨ ic P = 1 := by
  by_cases h : P
  · exact Or.inr (ic_t h)
  · exact Or.inl (ic_f h)
theorem ic_1 {P : Prop} : ic P = 1 ↔ P := by
  constructor
  · intro h
    by_cases hp : P
    · exact hp
    · rw [ic_f hp] at h; omega
  · exact ic_t
theorem ic_c {P Q : Prop} (h : P ↔ Q) : ic P = ic Q := by rw [propext h]
def sv (w : Nat) (s : Nat → Int32) (p : Nat) : Int32 := s (p / 24 * w + p % 24)
theorem sv_xy {w : Nat} {s : Nat → Int32} {x y : Nat} (hx : x < 24) : sv w s (24 * y + x) = s (y * w + x) := by
  unfold sv
  rw [show (24 * y + x) / 24 = y by omega, show (24 * y + x) % 24 = x by omega]
theorem sv_us {w p : Nat} {s : Nat → Int32} {v : Int32} : sv w (upd s (p / 24 * w + p % 24) v) p = v := pk_us
theorem sv_un {w h p q : Nat} {s : Nat → Int32} {v : Int32} (hp : gr w h p) (hq : gr w h q) (hne : q ≠ p) : sv w (upd s (p / 24 * w + p % 24) v) q = sv w s q := by
  unfold sv
  unfold gr at hp hq
  exact pk_un (fun e => by have := g_inj (y := q / 24) (y' := p / 24) hq.1 hp.1 e; omega)
theorem zF2 {F : Nat} (hF : F ≤ 1000) : ¬ zI (F : Int) = -2 := by rw [show (-2 : Int32) = zI (-2) by decide, zI_eq (by omega) (by omega) (by omega) (by omega)]; omega
theorem zF1 {F : Nat} (hF : F ≤ 1000) : ¬ zI (F : Int) = -1 := by rw [zlm1, zI_eq (by omega) (by omega) (by omega) (by omega)]; omega
/-- the list of the cells joined -/
def pl (jx jy : Nat → Int32) (k : Nat) : Nat := 24 * (jy k).toNatClampNeg + (jx k).toNatClampNeg
section AF
variable {w h : Nat} {dk : Nat → Prop}
theorem q_spotAt (hw : w ≤ 24) (hh : h ≤ 24) {a b : Int} (a1 : -1 ≤ a) (a2 : a ≤ 24) (b1 : -1 ≤ b) (b2 : b ≤ 24) {jn fd mk : Int32} {s : Nat → Int32} :
    (∀ q, gr w h q → ((q % 24 : Nat) : Int) = a → ((q / 24 : Nat) : Int) = b → p_Spots_spotAt (zI a) (zI b) (zI w) (zI h) jn fd mk (w * h) s = some (sv w s q)) ∧ ((∀ q, gr w h q → ((q % 24 : Nat) : Int) = a → ((q / 24 : Nat) : Int) = b → False) → p_Spots_spotAt (zI a) (zI b) (zI w) (zI h) jn fd mk (w * h) s = some (-1)) := by
  have c1 : zI a < 0 ↔ a < 0 := by rw [zl0]; exact zI_lt (by omega) (by omega) (by omega) (by omega)
  have c2 : zI w ≤ zI a ↔ (w : Int) ≤ a := zI_le (by omega) (by omega) (by omega) (by omega)
  have c3 : zI b < 0 ↔ b < 0 := by rw [zl0]; exact zI_lt (by omega) (by omega) (by omega) (by omega)
  have c4 : zI h ≤ zI b ↔ (h : Int) ≤ b := zI_le (by omega) (by omega) (by omega) (by omega)
  have hwh := g_wh hw hh
  unfold p_Spots_spotAt
  simp only [c1, c2, c3, c4]
  constructor
  · rintro q hq rfl rfl
    unfold gr at hq
    have := g_lt hq.1 hq.2
    rw [if_neg (by omega), if_neg (by omega), if_neg (by omega), if_neg (by omega), z_pl, pu_gt ((zn_in (by omega)).mpr this), zn_cl (by omega)]
    rfl
  · intro hno
    by_cases hin : 0 ≤ a ∧ a < w ∧ 0 ≤ b ∧ b < h
    · exact absurd (hno (24 * b.toNat + a.toNat) (by unfold gr; omega) (by omega) (by omega)) (by simp)
    · repeat' split
      all_goals first | rfl | (exfalso; omega)
noncomputable def own (w h : Nat) (s : Nat → Int32) (F p : Nat) : Int := ic (gr w h p ∧ sv w s p = zI (F : Int))
def FI (w h : Nat) (dk : Nat → Prop) (F : Nat) (s0 : Nat → Int32) (p0 n : Nat) (s jx jy : Nat → Int32) : Prop :=
  n ≤ w * h ∧ Ls (own w h s F) (pl jx jy) n ∧ (∀ k, k < n → gr w h (pl jx jy k) ∧ jx k = zI ((pl jx jy k % 24 : Nat) : Int) ∧ jy k = zI ((pl jx jy k / 24 : Nat) : Int)) ∧ (∀ p, gr w h p → sv w s p = sv w s0 p ∨ (sv w s0 p = -2 ∧ sv w s p = zI (F : Int))) ∧ ∀ p, gr w h p → sv w s p = zI (F : Int) → dk p ∧ Cn dk p0 p
theorem gr5 {w h p : Nat} (hh : h ≤ 24) (hp : gr w h p) : p < 576 := by unfold gr at hp; omega
theorem f_take (hw : w ≤ 24) (hh : h ≤ 24) {F : Nat} (hF : F ≤ 1000) {s0 s jx jy : Nat → Int32} {p0 n : Nat} (hI : FI w h dk F s0 p0 n s jx jy) (hs0 : ∀ p, gr w h p → sv w s0 p = -2 → dk p) {a b : Int} (a1 : -1 ≤ a) (a2 : a ≤ 24) (b1 : -1 ≤ b) (b2 : b ≤ 24) {mk : Int32}
    (hnew : ∀ q, gr w h q → ((q % 24 : Nat) : Int) = a → ((q / 24 : Nat) : Int) = b → dk q → Cn dk p0 q) :
    ∃ (n' : Nat) (s' jx' jy' : Nat → Int32), p_Spots_take (zI a) (zI b) (zI w) (zI h) (zI n) (zI F) mk (w * h) s (w * h) jx (w * h) jy = some (zI n', s', jx', jy') ∧ FI w h dk F s0 p0 n' s' jx' jy' ∧ n ≤ n' ∧ (∀ k, k < n → jx' k = jx k ∧ jy' k = jy k) ∧ (∀ q, gr w h q → sv w s q ≠ -2 → sv w s' q = sv w s q) ∧ ∀ q, gr w h q → ((q % 24 : Nat) : Int) = a → ((q / 24 : Nat) : Int) = b → sv w s' q ≠ -2 ∧ (sv w s q = -2 → sv w s' q = zI (F : Int)) := by
  obtain ⟨i0, iL, iP, iS, iO⟩ := id hI
  have hwh := g_wh hw hh
  obtain ⟨t, f⟩ := @q_spotAt w h hw hh a b a1 a2 b1 b2 (zI n) (zI F) mk s
  unfold p_Spots_take
  by_cases hq : ∃ q, gr w h q ∧ ((q % 24 : Nat) : Int) = a ∧ ((q / 24 : Nat) : Int) = b
  · obtain ⟨q, hg, ha, hb⟩ := hq
    have hu : ∀ q', gr w h q' → ((q' % 24 : Nat) : Int) = a → ((q' / 24 : Nat) : Int) = b → q' = q := fun q' _ e1 e2 => by omega
    rw [t q hg ha hb]
    simp only [Option.bind_some]
    by_cases h2 : sv w s q = -2
    · rw [if_pos h2]
      have hq5 := gr5 hh hg
      have hF2 := zF2 hF
      have own0 : own w h s F q = 0 := ic_f (fun z => hF2 (by rw [← z.2]; exact h2))
      have hgq := hg
      unfold gr at hgq
      have hlt := g_lt hgq.1 hgq.2
      -- there is room
      have hroom : n + 1 ≤ w * h := by
        refine pigeon (w * h) (n + 1) (fun k => if k = n then q / 24 * w + q % 24 else pl jx jy k / 24 * w + pl jx jy k % 24) (fun k hk => ?_) (fun i k hi hk e => ?_)
        · by_cases ek : k = n
          · simp only [ek, if_true]; exact hlt
          · simp only [ek, if_false]
            have := (iP k (by omega)).1
            unfold gr at this
            exact g_lt this.1 this.2
        · by_cases ei : i = n
          · by_cases ek : k = n
            · omega
            · exfalso
              simp only [ei, if_true, ek, if_false] at e
              have hg' := (iP k (by omega)).1
              unfold gr at hg'
              obtain ⟨e1, e2⟩ := g_inj hgq.1 hg'.1 e
              have : pl jx jy k = q := by omega
              have h1 := (ls_in iL hq5).mpr ⟨k, by omega, this⟩
              omega
          · by_cases ek : k = n
            · exfalso
              simp only [ei, if_false, ek, if_true] at e
              have hg' := (iP i (by omega)).1
              unfold gr at hg'
              obtain ⟨e1, e2⟩ := g_inj hg'.1 hgq.1 e
              have : pl jx jy i = q := by omega
              have h1 := (ls_in iL hq5).mpr ⟨i, by omega, this⟩
              omega
            · simp only [ei, ek, if_false] at e
              have hg1 := (iP i (by omega)).1
              have hg2 := (iP k (by omega)).1
              have h5 := gr5 hh hg1
              unfold gr at hg1 hg2
              obtain ⟨e1, e2⟩ := g_inj hg1.1 hg2.1 e
              exact ls_inj iL (by omega) (by omega) h5 (by omega)
      have eN : Int32.ofNat (w * h) = zI ((w * h : Nat) : Int) := zI_nat _
      rw [eN, if_neg (by rw [zn_le (by omega) (by omega)]; omega), ← ha, ← hb, z_pl, pu_gt ((zn_in (by omega)).mpr hlt), pu_gt ((zn_in (by omega)).mpr (by omega)), pu_gt ((zn_in (by omega)).mpr (by omega)), zn_cl (by omega), zn_cl (by omega), zI_s]
      have epl : ∀ k, pl (upd jx n (zI ((q % 24 : Nat) : Int))) (upd jy n (zI ((q / 24 : Nat) : Int))) k = if k = n then q else pl jx jy k := by
        intro k
        unfold pl
        by_cases ek : k = n
        · subst ek
          rw [pk_us, pk_us, zn_cl (by omega), zn_cl (by omega), if_pos rfl]
          omega
        · rw [pk_un ek, pk_un ek, if_neg ek]
      refine ⟨n + 1, _, _, _, rfl, ⟨hroom, ?_, fun k hk => ?_, fun p hp => ?_, fun p hp he => ?_⟩, by omega, fun k hk => ⟨pk_un (by omega), pk_un (by omega)⟩, fun p hp hne => ?_, fun p hp e1 e2 => ?_⟩
      · refine ls_add iL hq5 own0 (ic_t ⟨hg, sv_us⟩) (fun j hj => ?_) (fun k hk => by rw [epl, if_neg (by omega)]) (by rw [epl, if_pos rfl])
        refine ic_c ⟨fun z => ⟨z.1, ?_⟩, fun z => ⟨z.1, ?_⟩⟩
        · rw [← z.2]; exact (sv_un hg z.1 hj).symm
        · rw [← z.2]; exact sv_un hg z.1 hj
      · by_cases ek : k = n
        · subst ek
          rw [epl, if_pos rfl]
          exact ⟨hg, pk_us, pk_us⟩
        · rw [epl, if_neg ek, pk_un ek, pk_un ek]
          exact iP k (by omega)
      · by_cases ep : p = q
        · subst ep
          refine Or.inr ⟨?_, sv_us⟩
          rcases iS p hp with e | ⟨e, -⟩
          · rw [← e]; exact h2
          · exact e
        · rw [sv_un hg hp ep]
          exact iS p hp
      · by_cases ep : p = q
        · subst ep
          have hd : dk p := by
            rcases iS p hp with e | ⟨e, -⟩
            · exact hs0 p hp (by rw [← e]; exact h2)
            · exact hs0 p hp e
          exact ⟨hd, hnew p hp ha hb hd⟩
        · rw [sv_un hg hp ep] at he
          exact iO p hp he
      · by_cases ep : p = q
        · subst ep
          exact absurd h2 hne
        · exact sv_un hg hp ep
      · have ep : p = q := by omega
        subst ep
        have e3 : sv w (upd s (p / 24 * w + p % 24) (zI (F : Int))) p = zI (F : Int) := sv_us
        exact ⟨by rw [e3]; exact hF2, fun _ => e3⟩
    · rw [if_neg h2]
      refine ⟨n, s, jx, jy, rfl, hI, by omega, fun _ _ => ⟨rfl, rfl⟩, fun _ _ _ => rfl, fun p hp e1 e2 => ?_⟩
      have ep := hu p hp e1 e2
      subst ep
      exact ⟨h2, fun q => absurd q h2⟩
  · rw [f (fun q h1 h2 h3 => hq ⟨q, h1, h2, h3⟩)]
    exact ⟨n, s, jx, jy, rfl, hI, by omega, fun _ _ => ⟨rfl, rfl⟩, fun _ _ _ => rfl, fun p hp e1 e2 => absurd ⟨p, hp, e1, e2⟩ hq⟩
theorem pl_k {jx jy jx' jy' : Nat → Int32} {k : Nat} (h : jx' k = jx k ∧ jy' k = jy k) : pl jx' jy' k = pl jx jy k := by unfold pl; rw [h.1, h.2]
/-- the filling of a spot -/
theorem f_join (hw : w ≤ 24) (hh : h ≤ 24) (hd : ∀ p, dk p → p < 576 ∧ gr w h p) {F : Nat} (hF : F ≤ 1000) {s0 jx jy : Nat → Int32} {p0 : Nat} (hg0 : gr w h p0) (hs0 : ∀ p, gr w h p → sv w s0 p = -2 → dk p) (hn0 : ∀ p, gr w h p → ¬ sv w s0 p = zI (F : Int)) (h02 : sv w s0 p0 = -2) {jn mk : Int32} :
    ∃ (n : Nat) (s jx' jy' : Nat → Int32), p_Spots_joinFrom (zI ((p0 % 24 : Nat) : Int)) (zI ((p0 / 24 : Nat) : Int)) (zI w) (zI h) jn (zI F) mk (w * h) s0 (w * h) jx (w * h) jy = some (zI n, s, jx', jy') ∧ FI w h dk F s0 p0 n s jx' jy' ∧ sv w s p0 = zI (F : Int) ∧ ∀ k, k < n → ∀ q, dk q → ad (pl jx' jy' k) q → sv w s q ≠ -2 := by
  have hwh := g_wh hw hh
  have g0 := hg0
  unfold gr at g0
  have hI0 : FI w h dk F s0 p0 0 s0 jx jy := by
    refine ⟨by omega, ⟨fun j => ic_01 _, fun G => ?_⟩, fun k hk => by omega, fun p hp => Or.inl rfl, fun p hp he => absurd he (hn0 p hp)⟩
    exact sm_0 576 (fun k _ => by rw [show own w h s0 F k = 0 from ic_f (fun z => hn0 k z.1 z.2)]; simp)
  obtain ⟨n1, s1, jx1, jy1, k1, I1, -, -, k2, k3⟩ := f_take hw hh hF hI0 hs0 (a := ((p0 % 24 : Nat) : Int)) (b := ((p0 / 24 : Nat) : Int)) (mk := mk) (by omega) (by omega) (by omega) (by omega) (fun q hq e1 e2 hdq => by
    have : q = p0 := by omega
    subst this
    exact Cn_r q)
  have hp0 := (k3 p0 hg0 rfl rfl).2 h02
  have hloop := pu_rule (f := p_Spots_joinFrom_L2 (zI w) (zI h) (zI F) mk (w * h) (w * h) (w * h)) (fun st => ∃ (k n : Nat) (s jx jy : Nat → Int32), st = (zI k, zI n, s, jx, jy) ∧ k ≤ n ∧ FI w h dk F s0 p0 n s jx jy ∧ sv w s p0 = zI (F : Int) ∧ ∀ k', k' < k → ∀ q, dk q → ad (pl jx jy k') q → sv w s q ≠ -2)
    (fun e => ∃ (x : Int32) (n : Nat) (s jx jy : Nat → Int32), e = (x, zI n, s, jx, jy) ∧ FI w h dk F s0 p0 n s jx jy ∧ sv w s p0 = zI (F : Int) ∧ ∀ k', k' < n → ∀ q, dk q → ad (pl jx jy k') q → sv w s q ≠ -2) (fun st => 1000 - st.1.toNatClampNeg) (by
    rintro _ ⟨k, n, s, jx, jy, rfl, hkn, hI, hp, hC⟩
    unfold p_Spots_joinFrom_L2
    dsimp only
    have hnw := hI.1
    by_cases hk : n ≤ k
    · rw [if_pos (by rw [zn_le (by omega) (by omega)]; exact hk)]
      exact Or.inr ⟨_, rfl, _, n, s, jx, jy, rfl, hI, hp, fun k' hk' => hC k' (by omega)⟩
    · have eN : Int32.ofNat (w * h) = zI ((w * h : Nat) : Int) := zI_nat _
      rw [if_neg (by rw [zn_le (by omega) (by omega)]; exact hk), eN, if_neg (by rw [zn_le (by omega) (by omega)]; omega)]
      have ik : vp_in (zI (k : Int)) (w * h) := (zn_in (by omega)).mpr (by omega)
      simp only [pu_gt ik, zn_cl (show k ≤ 1000000 by omega)]
      obtain ⟨gc, ex, ey⟩ := hI.2.2.1 k (by omega)
      have gc' := gc
      unfold gr at gc'
      generalize hc : pl jx jy k = c at gc ex ey gc'
      have hdc : dk c ∧ Cn dk p0 c := hI.2.2.2.2 c gc ((ic_1.mp ((ls_in hI.2.1 (gr5 hh gc)).mpr ⟨k, by omega, hc⟩)).2)
      have hN : ∀ q, gr w h q → dk q → ad c q → Cn dk p0 q := fun q hq hdq ha => Cn_t hdc.2 (Cn_a hdc.1 hdq ha)
      have ey1 : zI ((c / 24 : Nat) : Int) - 1 = zI (((c / 24 : Nat) : Int) - 1) := by rw [zl1, zI_sub]
      have ex1 : zI ((c % 24 : Nat) : Int) - 1 = zI (((c % 24 : Nat) : Int) - 1) := by rw [zl1, zI_sub]
      have ex2 : zI ((c % 24 : Nat) : Int) + 1 = zI (((c % 24 : Nat) : Int) + 1) := by rw [zl1, zI_add]
      have ey2 : zI ((c / 24 : Nat) : Int) + 1 = zI (((c / 24 : Nat) : Int) + 1) := by rw [zl1, zI_add]
      obtain ⟨na, sa, jxa, jya, a1, a2, a3, a4, a5, a6⟩ := f_take hw hh hF hI hs0 (a := ((c % 24 : Nat) : Int)) (b := ((c / 24 : Nat) : Int) - 1) (mk := mk) (by omega) (by omega) (by omega) (by omega) (fun q hq e1 e2 hdq => hN q hq hdq (by unfold ad; omega))
      obtain ⟨nb, sb, jxb, jyb, b1, b2, b3, b4, b5, b6⟩ := f_take hw hh hF a2 hs0 (a := ((c % 24 : Nat) : Int) - 1) (b := ((c / 24 : Nat) : Int)) (mk := mk) (by omega) (by omega) (by omega) (by omega) (fun q hq e1 e2 hdq => hN q hq hdq (by unfold ad; omega))
      obtain ⟨nc, sc, jxc, jyc, c1, c2, c3, c4, c5, c6⟩ := f_take hw hh hF b2 hs0 (a := ((c % 24 : Nat) : Int) + 1) (b := ((c / 24 : Nat) : Int)) (mk := mk) (by omega) (by omega) (by omega) (by omega) (fun q hq e1 e2 hdq => hN q hq hdq (by unfold ad; omega))
      obtain ⟨nd, sd, jxd, jyd, d1, d2, d3, d4, d5, d6⟩ := f_take hw hh hF c2 hs0 (a := ((c % 24 : Nat) : Int)) (b := ((c / 24 : Nat) : Int) + 1) (mk := mk) (by omega) (by omega) (by omega) (by omega) (fun q hq e1 e2 hdq => hN q hq hdq (by unfold ad; omega))
      have ja := a4 k (by omega)
      have jb := b4 k (by omega)
      have jc := c4 k (by omega)
      have jd := d4 k (by omega)
      rw [ex, ey, ey1, a1]
      simp only [Option.bind_some]
      rw [ja.1, ja.2, ex, ey, ex1, b1]
      simp only [Option.bind_some]
      rw [jb.1, jb.2, ja.1, ja.2, ex, ey, ex2, c1]
      simp only [Option.bind_some]
      rw [jc.1, jc.2, jb.1, jb.2, ja.1, ja.2, ex, ey, ey2, d1]
      simp only [Option.bind_some, zI_s]
      -- what isn't -2 stays so
      have up : ∀ q, gr w h q → sv w s q ≠ -2 → sv w sd q ≠ -2 := fun q hq h0 => by
        have e1 := a5 q hq h0
        have e2 := b5 q hq (by rw [e1]; exact h0)
        have e3 := c5 q hq (by rw [e2, e1]; exact h0)
        have e4 := d5 q hq (by rw [e3, e2, e1]; exact h0)
        rw [e4, e3, e2, e1]; exact h0
      refine Or.inl ⟨_, rfl, ⟨k + 1, nd, sd, jxd, jyd, rfl, by omega, d2, ?_, fun k' hk' q hq haq => ?_⟩, ?_⟩
      · have e0 : sv w s p0 ≠ -2 := by rw [hp]; exact zF2 hF
        have e1 := a5 p0 hg0 e0
        have e2 := b5 p0 hg0 (by rw [e1]; exact e0)
        have e3 := c5 p0 hg0 (by rw [e2, e1]; exact e0)
        have e4 := d5 p0 hg0 (by rw [e3, e2, e1]; exact e0)
        rw [e4, e3, e2, e1]; exact hp
      · have hgq := (hd q hq).2
        have epl : pl jxd jyd k' = pl jx jy k' := by
          rw [pl_k (d4 k' (by omega)), pl_k (c4 k' (by omega)), pl_k (b4 k' (by omega)), pl_k (a4 k' (by omega))]
        rw [epl] at haq
        by_cases ek : k' = k
        · subst ek
          rw [hc] at haq
          unfold ad at haq
          rcases haq with ⟨h1, h2 | h2⟩ | ⟨h1, h2 | h2⟩
          · have e0 := (c6 q hgq (by omega) (by omega)).1
            have e4 := d5 q hgq e0
            rw [e4]; exact e0
          · have e0 := (b6 q hgq (by omega) (by omega)).1
            have e3 := c5 q hgq e0
            have e4 := d5 q hgq (by rw [e3]; exact e0)
            rw [e4, e3]; exact e0
          · exact (d6 q hgq (by omega) (by omega)).1
          · have e0 := (a6 q hgq (by omega) (by omega)).1
            have e2 := b5 q hgq e0
            have e3 := c5 q hgq (by rw [e2]; exact e0)
            have e4 := d5 q hgq (by rw [e3, e2]; exact e0)
            rw [e4, e3, e2]; exact e0
        · exact up q hgq (hC k' (by omega) q hq haq)
      · try dsimp only
        rw [zn_cl (k := k + 1) (by omega)]
        omega) (zI ((0 : Nat) : Int), zI n1, s1, jx1, jy1) ⟨0, n1, s1, jx1, jy1, rfl, by omega, I1, hp0, fun k' hk' => by omega⟩
  obtain ⟨e, h1, x, n, s, jx', jy', rfl, h2, h3, h4⟩ := hloop
  refine ⟨n, s, jx', jy', ?_, h2, h3, h4⟩
  unfold p_Spots_joinFrom
  have k1' : p_Spots_take (zI ((p0 % 24 : Nat) : Int)) (zI ((p0 / 24 : Nat) : Int)) (zI w) (zI h) 0 (zI F) mk (w * h) s0 (w * h) jx (w * h) jy = some (zI n1, s1, jx1, jy1) := k1
  have h1' : pu_loop (p_Spots_joinFrom_L2 (zI w) (zI h) (zI F) mk (w * h) (w * h) (w * h)) (0, zI n1, s1, jx1, jy1) = some (x, zI n, s, jx', jy') := h1
  rw [k1']
  simp only [Option.bind_some]
  rw [h1']
  rfl
end AF
