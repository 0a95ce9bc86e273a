/-! PURE SIDE: the light: fractions, gain, change -/
theorem f_two {A : Int} {B : Nat} (a1 : A.natAbs < 2 ^ 50) (b0 : 0 < B) (b1 : B < 2 ^ 50) (o o' : Int64) :
    ∃ g : Nat, g = Nat.gcd A.natAbs B ∧ 0 < g ∧ g < 2 ^ 50 ∧ ¬ zL (g : Int) = 0 ∧ p_Fraction_become (zL A) (zL B) o o' = some (zL A / zL g, zL B / zL g) ∧ p_Mod_divisor (zL A) (zL B) = some (zL g) := by
  have g0 : 0 < Nat.gcd A.natAbs B := Nat.gcd_pos_of_pos_right _ b0
  have g1 : Nat.gcd A.natAbs B ≤ B := Nat.gcd_le_right _ b0
  have gz : ¬ zL ((Nat.gcd A.natAbs B : Nat) : Int) = 0 := by rw [zL0, zL_eq (by omega) (by omega) (by omega) (by omega)]; omega
  refine ⟨_, rfl, g0, by omega, gz, ?_, ?_⟩
  · unfold p_Fraction_become
    have e1 : (if 0 < zL A then zL A else -zL A) = zL (A.natAbs : Int) := by
      have c : (0 : Int64) < zL A ↔ 0 < A := by rw [zL0]; exact zL_lt (by omega) (by omega) (by omega) (by omega)
      simp only [c]
      split
      · congr 1; omega
      · rw [zL_neg]; congr 1; omega
    rw [e1, e_cls a1 b1]
    simp only [Option.bind_some, lg_cmp_le]
    rw [if_neg (by rw [zL0, zL_le (by omega) (by omega) (by omega) (by omega)]; omega), pu_gt gz, pu_gt gz]
  · unfold p_Mod_divisor
    have e1 : (if 0 ≤ lg_cmp (zL A) 0 then some (zL A) else some (0 - zL A)) = some (zL (A.natAbs : Int)) := by
      have c : (0 : Int64) ≤ zL A ↔ 0 ≤ A := by rw [zL0]; exact zL_le (by omega) (by omega) (by omega) (by omega)
      simp only [lg_cmp_ge, c]
      split
      · congr 2; omega
      · rw [zL0, zL_sub]; congr 2; omega
    rw [e1]
    simp only [Option.bind_some]
    obtain ⟨y, hy⟩ := e_mod a1 b1
    rw [hy]
    rfl
/-- a picture's values, by the reference's places -/
theorem IG_f {w h : Nat} {xf mf : Nat → Int32} (hF : IG w h xf mf) : ∃ F : Nat → Int, ∀ x y : Nat, x < w → y < h → 0 ≤ F (24 * y + x) ∧ F (24 * y + x) ≤ 255 ∧ xf (y * w + x) = zI (F (24 * y + x)) ∧ mf (24 * y + x) = zI (F (24 * y + x)) := by
  refine ⟨fun k => (mf k).toInt, fun x y hx hy => ?_⟩
  obtain ⟨v, v1, v2, e1, e2⟩ := hF x y hx hy
  have : (mf (24 * y + x)).toInt = v := by rw [e2, zI_t (by omega) (by omega)]
  simp only [this]
  exact ⟨v1, v2, e1, e2⟩
/-- the place that lies on p at a shift -/
def onP (a d : Int) (p : Nat) : Nat := ((p : Int) + 24 * d + a).toNat
noncomputable def wA (w h : Nat) (F K : Nat → Int) (a d : Int) (p : Nat) : Int := @ite _ (inG w h ((p : Int) % 24 + a) ((p : Int) / 24 + d)) (Classical.propDecidable _) (F p * K (onP a d p)) 0
noncomputable def wB (w h : Nat) (K : Nat → Int) (a d : Int) (p : Nat) : Int := @ite _ (inG w h ((p : Int) % 24 + a) ((p : Int) / 24 + d)) (Classical.propDecidable _) (K (onP a d p) * K (onP a d p)) 0
theorem pl_mod {x y : Nat} (hx : x < 24) : ((24 * y + x : Nat) : Int) % 24 = x ∧ ((24 * y + x : Nat) : Int) / 24 = y := by omega
theorem mul_in {a b : Int} (a1 : 0 ≤ a) (a2 : a ≤ 255) (b1 : 0 ≤ b) (b2 : b ≤ 255) : 0 ≤ a * b ∧ a * b ≤ 65025 := by
  refine ⟨Int.mul_nonneg a1 b1, ?_⟩
  have := Int.mul_le_mul a2 b2 b1 (show (0 : Int) ≤ 255 by omega)
  omega
section AL
variable {th re wi fl ac dn ma sp da : Int32} {su my ab be : Int64} {w h : Nat}
theorem wAB_in {F K : Nat → Int} (hw : w ≤ 24) (hh : h ≤ 24) (hF : ∀ x y : Nat, x < w → y < h → 0 ≤ F (24 * y + x) ∧ F (24 * y + x) ≤ 255) (hK : ∀ x y : Nat, x < w → y < h → 0 ≤ K (24 * y + x) ∧ K (24 * y + x) ≤ 255) {a d : Int} {x y : Nat} (hx : x < w) (hy : y < h) :
    (0 ≤ wA w h F K a d (24 * y + x) ∧ wA w h F K a d (24 * y + x) ≤ 65025) ∧ (0 ≤ wB w h K a d (24 * y + x) ∧ wB w h K a d (24 * y + x) ≤ 65025) := by
  unfold wA wB
  obtain ⟨e1, e2⟩ := pl_mod (x := x) (y := y) (by omega)
  rw [e1, e2]
  by_cases hi : inG w h ((x : Int) + a) ((y : Int) + d)
  · rw [if_pos hi, if_pos hi]
    obtain ⟨x', y', q1, q2, hx', hy'⟩ := g_xy hi
    have eo : onP a d (24 * y + x) = 24 * y' + x' := by unfold onP; omega
    rw [eo]
    obtain ⟨f1, f2⟩ := hF x y hx hy
    obtain ⟨k1, k2⟩ := hK x' y' hx' hy'
    exact ⟨mul_in f1 f2 k1 k2, mul_in k1 k2 k1 k2⟩
  · rw [if_neg hi, if_neg hi]
    omega
theorem w_cls (hw : w ≤ 24) (hh : h ≤ 24) {xf xl xs ys : Nat → Int32} {F K : Nat → Int} {P : Nat → Nat} {n : Nat} (hn : n ≤ 12) {a d : Int} (a1 : -3 ≤ a) (a2 : a ≤ 3) (d1 : -3 ≤ d) (d2 : d ≤ 3)
    (hF : ∀ x y : Nat, x < w → y < h → 0 ≤ F (24 * y + x) ∧ F (24 * y + x) ≤ 255 ∧ xf (y * w + x) = zI (F (24 * y + x))) (hK : ∀ x y : Nat, x < w → y < h → 0 ≤ K (24 * y + x) ∧ K (24 * y + x) ≤ 255 ∧ xl (y * w + x) = zI (K (24 * y + x)))
    (hP : ∀ k, k < n → ∃ x y : Nat, x < w ∧ y < h ∧ xs k = zI x ∧ ys k = zI y ∧ P k = 24 * y + x) :
    pu_loop (p_Pic_weighLight_L1 (zI w) (zI h) (w * h) xf (w * h) xl (zI a) (zI d) (zI n) 12 xs 12 ys) (0, 0, 0) = some (zL (sm (fun k => wA w h F K a d (P k)) n), zL (sm (fun k => wB w h K a d (P k)) n), zI n) := by
  have := pu_fun (f := p_Pic_weighLight_L1 (zI w) (zI h) (w * h) xf (w * h) xl (zI a) (zI d) (zI n) 12 xs 12 ys) (σ := Int × Int) (fun k s => (zL s.1, zL s.2, zI (k : Int))) (fun k => (sm (fun k => wA w h F K a d (P k)) k, sm (fun k => wB w h K a d (P k)) k)) n (fun k hk => by
    obtain ⟨x, y, hx, hy, e1, e2, e3⟩ := hP k hk
    have hwh := g_wh hw hh
    unfold p_Pic_weighLight_L1
    dsimp only
    rw [if_neg (by rw [zn_le (by omega) (by omega)]; omega), pu_gt ((zn_in (by omega)).mpr (by omega)), pu_gt ((zn_in (by omega)).mpr (by omega)), zn_cl (by omega), e1, e2, zI_s]
    rw [(q_hasCell hw hh (a := (x : Int)) (b := (y : Int)) (by omega) (by omega) (by omega) (by omega)).1 (by unfold inG; omega)]
    simp only [Option.bind_some, one0, if_false, zI_add]
    obtain ⟨t, f⟩ := q_hasCell hw hh (a := (x : Int) + a) (b := (y : Int) + d) (by omega) (by omega) (by omega) (by omega)
    show _ = some (Sum.inl (zL (sm _ k + wA w h F K a d (P k)), zL (sm _ k + wB w h K a d (P k)), _))
    rw [e3]
    obtain ⟨m1, m2⟩ := pl_mod (x := x) (y := y) (by omega)
    by_cases hi : inG w h ((x : Int) + a) ((y : Int) + d)
    · rw [t hi]
      obtain ⟨x', y', q1, q2, hx', hy'⟩ := g_xy hi
      have eo : onP a d (24 * y + x) = 24 * y' + x' := by unfold onP; omega
      have vA : wA w h F K a d (24 * y + x) = F (24 * y + x) * K (24 * y' + x') := by unfold wA; rw [m1, m2, if_pos hi, eo]
      have vB : wB w h K a d (24 * y + x) = K (24 * y' + x') * K (24 * y' + x') := by unfold wB; rw [m1, m2, if_pos hi, eo]
      have l1 := g_lt hx hy
      have l2 := g_lt hx' hy'
      obtain ⟨f1, f2, f3⟩ := hF x y hx hy
      obtain ⟨k1, k2, k3⟩ := hK x' y' hx' hy'
      have b1 := mul_in f1 f2 k1 k2
      have b2 := mul_in k1 k2 k1 k2
      unfold p_Pic_placeOf
      simp only [Option.bind_some, one0, if_false, q1, q2, z_pl]
      rw [pu_gt ((zn_in (by omega)).mpr l2), pu_gt ((zn_in (by omega)).mpr l1), zn_cl (by omega), zn_cl (by omega), f3, k3, zI_mul, zI_mul, zI_l (by omega) (by omega), zI_l (by omega) (by omega), zL_add, zL_add, vA, vB]
    · rw [f hi]
      have vA : wA w h F K a d (24 * y + x) = 0 := by unfold wA; rw [m1, m2, if_neg hi]
      have vB : wB w h K a d (24 * y + x) = 0 := by unfold wB; rw [m1, m2, if_neg hi]
      rw [vA, vB, Int.add_zero, Int.add_zero]
      rfl) (e := (zL (sm (fun k => wA w h F K a d (P k)) n), zL (sm (fun k => wB w h K a d (P k)) n), zI n)) (by
    unfold p_Pic_weighLight_L1
    dsimp only
    rw [if_pos (by rw [zn_le (by omega) (by omega)]; omega)])
  exact this
theorem w_mod (hw : w ≤ 24) (hh : h ≤ 24) {mf ml mch : Nat → Int32} {F K c : Nat → Int} {a d : Int} (a1 : -3 ≤ a) (a2 : a ≤ 3) (d1 : -3 ≤ d) (d2 : d ≤ 3)
    (hF : ∀ x y : Nat, x < w → y < h → 0 ≤ F (24 * y + x) ∧ F (24 * y + x) ≤ 255 ∧ mf (24 * y + x) = zI (F (24 * y + x))) (hK : ∀ x y : Nat, x < w → y < h → 0 ≤ K (24 * y + x) ∧ K (24 * y + x) ≤ 255 ∧ ml (24 * y + x) = zI (K (24 * y + x)))
    (hc : ∀ j, mch j = zI (c j)) (h01 : ∀ j, c j = 0 ∨ c j = 1) (hin : ∀ j, j < 576 → c j = 1 → ∃ x y : Nat, x < w ∧ y < h ∧ j = 24 * y + x) :
    pu_loop (p_Mod_weigh_L1 th (zI w) (zI h) re wi fl (zI a) (zI d) su my ma sp da 576 mf 576 ml 576 mch) (0, 0, 0) = some (zI ((576 : Nat) : Int), zL (sm (fun j => c j * wA w h F K a d j) 576), zL (sm (fun j => c j * wB w h K a d j) 576)) := by
  have := pu_fun (f := p_Mod_weigh_L1 th (zI w) (zI h) re wi fl (zI a) (zI d) su my ma sp da 576 mf 576 ml 576 mch) (σ := Int × Int) (fun k s => (zI (k : Int), zL s.1, zL s.2)) (fun k => (sm (fun j => c j * wA w h F K a d j) k, sm (fun j => c j * wB w h K a d j) k)) 576 (fun k hk => by
    unfold p_Mod_weigh_L1
    dsimp only
    rw [if_neg (by rw [zl576, zn_le (by omega) (by omega)]; omega), pu_gt ((zn_in (by omega)).mpr (by omega)), zn_cl (by omega), hc, zI_s]
    show _ = some (Sum.inl (_, zL (sm _ k + c k * wA w h F K a d k), zL (sm _ k + c k * wB w h K a d k)))
    rcases h01 k with h0 | h0
    · rw [h0, if_pos (by decide)]
      simp only [Option.bind_some, if_true, Int.zero_mul, Int.add_zero]
    · obtain ⟨x, y, hx, hy, rfl⟩ := hin k hk h0
      rw [h0, if_neg (by decide)]
      obtain ⟨m1, m2⟩ := pl_mod (x := x) (y := y) (by omega)
      obtain ⟨t, f⟩ := @q_under th re wi fl (zI a) (zI d) ma sp da su my (zL (sm (fun j => c j * wA w h F K a d j) (24 * y + x))) (zL (sm (fun j => c j * wB w h K a d j) (24 * y + x))) w h hw hh ((24 * y + x : Nat) : Int) a d (by omega) (by omega) a1 a2 d1 d2
      rw [m1, m2] at t f
      by_cases hi : inG w h ((x : Int) + a) ((y : Int) + d)
      · rw [t ⟨by unfold inG; omega, hi⟩]
        obtain ⟨x', y', q1, q2, hx', hy'⟩ := g_xy hi
        have eo : onP a d (24 * y + x) = 24 * y' + x' := by unfold onP; omega
        have vA : wA w h F K a d (24 * y + x) = F (24 * y + x) * K (24 * y' + x') := by unfold wA; rw [m1, m2, if_pos hi, eo]
        have vB : wB w h K a d (24 * y + x) = K (24 * y' + x') * K (24 * y' + x') := by unfold wB; rw [m1, m2, if_pos hi, eo]
        obtain ⟨f1, f2, f3⟩ := hF x y hx hy
        obtain ⟨k1, k2, k3⟩ := hK x' y' hx' hy'
        have b1 := mul_in f1 f2 k1 k2
        have b2 := mul_in k1 k2 k1 k2
        have eq : ((24 * y + x : Nat) : Int) + 24 * d + a = ((24 * y' + x' : Nat) : Int) := by omega
        rw [eq]
        simp only [Option.bind_some]
        have hne : ¬ zI ((24 * y' + x' : Nat) : Int) = -1 := by rw [zlm1, zI_eq (by omega) (by omega) (by omega) (by omega)]; omega
        have i1 : vp_in (zI ((24 * y + x : Nat) : Int)) 576 := (zn_in (by omega)).mpr (by omega)
        have i2 : vp_in (zI ((24 * y' + x' : Nat) : Int)) 576 := (zn_in (by omega)).mpr (by omega)
        rw [if_neg hne, pu_gt i1, pu_gt i2, pu_gt i2, pu_gt i2, zn_cl (by omega), f3, k3, zI_mul, zI_mul, zI_l (by omega) (by omega), zI_l (by omega) (by omega), zL_add, zL_add, vA, vB, Int.one_mul, Int.one_mul]
      · rw [f (fun q => hi q.2)]
        have vA : wA w h F K a d (24 * y + x) = 0 := by unfold wA; rw [m1, m2, if_neg hi]
        have vB : wB w h K a d (24 * y + x) = 0 := by unfold wB; rw [m1, m2, if_neg hi]
        simp only [Option.bind_some, if_true, vA, vB, Int.mul_zero, Int.add_zero]) (e := (zI ((576 : Nat) : Int), zL (sm (fun j => c j * wA w h F K a d j) 576), zL (sm (fun j => c j * wB w h K a d j) 576))) (by
    unfold p_Mod_weigh_L1
    dsimp only
    rw [if_pos (by decide)])
  exact this
/-- the light weighed: on both sides the same fraction -/
theorem w_two (hw : w ≤ 24) (hh : h ≤ 24) {xf xl mf ml xs ys mch : Nat → Int32} {ra rd rx ry ma' md' held : Int32} {la lb : Int64} (hF : IG w h xf mf) (hG : IG w h xl ml) (hS : IS ra rd ma' md') (hC : ICh w h held xs ys mch) :
    ∃ A B : Nat, 1 ≤ A ∧ A ≤ 1000000 ∧ 1 ≤ B ∧ B ≤ 1000000 ∧ p_Pic_weighLight (zI w) (zI h) (w * h) xf (w * h) xl ra rd rx ry held 12 xs 12 ys la lb = some (zL A, zL B) ∧ p_Mod_weigh th (zI w) (zI h) re wi fl ma' md' su my ab be ma sp da 576 mf 576 ml 576 mch = some (zL A, zL B) := by
  obtain ⟨a, d, a1, a2, d1, d2, rfl, rfl, rfl, rfl⟩ := hS
  obtain ⟨n, c, P, hn, rfl, hL, hc, hP⟩ := id hC
  obtain ⟨F, hF⟩ := IG_f hF
  obtain ⟨K, hK⟩ := IG_f hG
  have k1 := w_cls hw hh hn a1 a2 d1 d2 (fun x y hx hy => ⟨(hF x y hx hy).1, (hF x y hx hy).2.1, (hF x y hx hy).2.2.1⟩) (fun x y hx hy => ⟨(hK x y hx hy).1, (hK x y hx hy).2.1, (hK x y hx hy).2.2.1⟩) hP
  have k2 := @w_mod th re wi fl ma sp da su my w h hw hh mf ml mch F K c a d a1 a2 d1 d2 (fun x y hx hy => ⟨(hF x y hx hy).1, (hF x y hx hy).2.1, (hF x y hx hy).2.2.2⟩) (fun x y hx hy => ⟨(hK x y hx hy).1, (hK x y hx hy).2.1, (hK x y hx hy).2.2.2⟩) hc hL.1 (fun j hj h1 => by
    obtain ⟨k, hk, rfl⟩ := (ls_in hL hj).mp h1
    obtain ⟨x, y, hx, hy, -, -, e⟩ := hP k hk
    exact ⟨x, y, hx, hy, e⟩)
  rw [hL.2 (wA w h F K a d), hL.2 (wB w h K a d)] at k2
  have bd : ∀ k, k < n → (0 ≤ wA w h F K a d (P k) ∧ wA w h F K a d (P k) ≤ 65025) ∧ (0 ≤ wB w h K a d (P k) ∧ wB w h K a d (P k) ≤ 65025) := fun k hk => by
    obtain ⟨x, y, hx, hy, -, -, e⟩ := hP k hk
    rw [e]
    exact wAB_in hw hh (fun x y hx hy => ⟨(hF x y hx hy).1, (hF x y hx hy).2.1⟩) (fun x y hx hy => ⟨(hK x y hx hy).1, (hK x y hx hy).2.1⟩) hx hy
  have bA := sm_le (B := 65025) n (fun k hk => (bd k hk).1)
  have bB := sm_le (B := 65025) n (fun k hk => (bd k hk).2)
  generalize sm (fun k => wA w h F K a d (P k)) n = A at k1 k2 bA
  generalize sm (fun k => wB w h K a d (P k)) n = B at k1 k2 bB
  have z0 : (0 : Int64) = zL 0 := zL0
  have cA : lg_cmp (zL A) 0 = 0 ↔ A = 0 := zL_ne bA.1 (by omega)
  have cB : lg_cmp (zL B) 0 = 0 ↔ B = 0 := zL_ne bB.1 (by omega)
  unfold p_Pic_weighLight p_Mod_weigh
  rw [k1, k2]
  simp only [Option.bind_some, cA, cB]
  -- either way a fraction of two numbers above 0
  have key : ∀ A B : Int, 1 ≤ A → A ≤ 1000000 → 1 ≤ B → B ≤ 1000000 → ∃ A' B' : Nat, 1 ≤ A' ∧ A' ≤ 1000000 ∧ 1 ≤ B' ∧ B' ≤ 1000000 ∧ (p_Fraction_become (zL A) (zL B) la lb).bind (fun ((u, v) : Int64 × Int64) => some (u, v)) = some (zL A', zL B') ∧ (p_Mod_divisor (zL A) (zL B)).bind (fun (v14 : Int64) => pu_gd (¬ (v14 : Int64) = 0) (pu_gd (¬ (v14 : Int64) = 0) (some ((zL A / v14), (zL B / v14))))) = some (zL A', zL B') := by
    intro A B h1 h2 h3 h4
    obtain ⟨A, rfl⟩ : ∃ m : Nat, A = m := ⟨A.toNat, by omega⟩
    obtain ⟨B, rfl⟩ : ∃ m : Nat, B = m := ⟨B.toNat, by omega⟩
    obtain ⟨g, hg, g0, g1, gz, r1, r2⟩ := f_two (A := (A : Int)) (B := B) (by omega) (by omega) (by omega) la lb
    rw [Int.natAbs_natCast] at hg
    have dA : g ∣ A := by rw [hg]; exact Nat.gcd_dvd_left A B
    have dB : g ∣ B := by rw [hg]; exact Nat.gcd_dvd_right A B
    refine ⟨A / g, B / g, Nat.div_pos (Nat.le_of_dvd (by omega) dA) g0, by have := Nat.div_le_self A g; omega, Nat.div_pos (Nat.le_of_dvd (by omega) dB) g0, by have := Nat.div_le_self B g; omega, ?_, ?_⟩
    · rw [r1]
      simp only [Option.bind_some]
      rw [zL_div (by omega) (by omega) (by omega) (by omega), zL_div (by omega) (by omega) (by omega) (by omega)]
      rfl
    · rw [r2]
      simp only [Option.bind_some]
      rw [pu_gt gz, pu_gt gz, zL_div (by omega) (by omega) (by omega) (by omega), zL_div (by omega) (by omega) (by omega) (by omega)]
      rfl
  by_cases hA : A = 0
  · rw [if_pos hA, if_pos hA]
    simp only [Option.bind_some]
    exact key 1 1 (by omega) (by omega) (by omega) (by omega)
  · rw [if_neg hA, if_neg hA]
    by_cases hB : B = 0
    · rw [if_pos hB, if_pos hB]
      simp only [Option.bind_some]
      exact key 1 1 (by omega) (by omega) (by omega) (by omega)
    · rw [if_neg hB, if_neg hB]
      simp only [Option.bind_some]
      exact key A B (by omega) (by omega) (by omega) (by omega)
theorem a_gain (hw : w ≤ 24) (hh : h ≤ 24) (a2 : Int32) {xf xl mf ml xs ys mch : Nat → Int32} {ra rd rx ry ma' md' held : Int32} {la lb : Int64} {out : Nat → Int64} (hF : IG w h xf mf) (hG : IG w h xl ml) (hS : IS ra rd ma' md') (hC : ICh w h held xs ys mch) :
    ∃ (k : Int32) (la' lb' : Int64) (out' : Nat → Int64) (r : Int32) (ab' be' : Int64), p_Law_gain a2 (zI w) (zI h) (w * h) xf (w * h) xl ra rd rx ry held 12 xs 12 ys la lb 1 out = some (k, la', lb', out') ∧ p_Mod_gain a2 th (zI w) (zI h) re wi fl ma' md' su my ab be ma sp da 576 mf 576 ml 576 mch = some (r, k, ab', be') ∧ (k = 0 → out' 0 = r.toInt64) := by
  obtain ⟨t, f⟩ := q_half a2
  unfold p_Law_gain p_Pic_gain p_Mod_gain
  by_cases hc : a2 = 0 ∨ a2 = 1
  · obtain ⟨t1, t2⟩ := t hc
    obtain ⟨A, B, -, -, -, -, r1, r2⟩ := @w_two 0 re wi fl ma sp da su my ab be w h hw hh xf xl mf ml xs ys mch ra rd rx ry ma' md' held la lb hF hG hS hC
    rw [t1, t2]
    simp only [Option.bind_some, gs_ok, one0, if_false, r1, r2]
    by_cases h0 : a2 = 0
    · simp only [h0, if_true, Option.bind_some, pu_gt in01]
      exact ⟨_, _, _, _, _, _, _, rfl, rfl, fun _ => up0 _ _⟩
    · simp only [h0, if_false, Option.bind_some, pu_gt in01]
      exact ⟨_, _, _, _, _, _, _, rfl, rfl, fun _ => up0 _ _⟩
  · obtain ⟨t1, t2⟩ := f hc
    rw [t1, t2]
    simp only [Option.bind_some, q_goes]
    exact ⟨1, la, lb, out, 0, ab, be, rfl, rfl, fun q => absurd q (by decide)⟩
/-- a cell's change, on both sides -/
theorem c_two (hw : w ≤ 24) (hh : h ≤ 24) {xf xl mf ml : Nat → Int32} {ra rd rx ry ma' md' : Int32} {A B : Nat} (hF : IG w h xf mf) (hG : IG w h xl ml) (hS : IS ra rd ma' md') (A1 : 1 ≤ A) (A2 : A ≤ 1000000) (B1 : 1 ≤ B) (B2 : B ≤ 1000000) {x y : Nat} (hx : x < w) (hy : y < h) :
    ∃ c : Int, 0 ≤ c ∧ c ≤ 1000000000 ∧ p_Pic_changeAt (zI x) (zI y) (zI w) (zI h) (w * h) xf (w * h) xl ra rd rx ry (zL A) (zL B) = some (zI c) ∧ ∀ th re wi fl su my ma sp da, p_Mod_changeOf (zI ((24 * y + x : Nat) : Int)) th (zI w) (zI h) re wi fl ma' md' su my (zL A) (zL B) ma sp da 576 mf 576 ml = some (zI c) := by
  obtain ⟨a, d, a1, a2, d1, d2, rfl, rfl, rfl, rfl⟩ := hS
  obtain ⟨m1, m2⟩ := pl_mod (x := x) (y := y) (by omega)
  obtain ⟨t, f⟩ := q_hasCell hw hh (a := (x : Int) + a) (b := (y : Int) + d) (by omega) (by omega) (by omega) (by omega)
  have hwh := g_wh hw hh
  by_cases hi : inG w h ((x : Int) + a) ((y : Int) + d)
  · obtain ⟨x', y', q1, q2, hx', hy'⟩ := g_xy hi
    obtain ⟨v, v1, v2, v3, v4⟩ := hF x y hx hy
    obtain ⟨l, l1, l2, l3, l4⟩ := hG x' y' hx' hy'
    have p1 := g_lt hx hy
    have p2 := g_lt hx' hy'
    have hm : (0 : Int) ≤ l * A ∧ l * A ≤ 255 * 1000000 := ⟨Int.mul_nonneg l1 (by omega), Int.mul_le_mul l2 (by omega) (by omega) (by omega)⟩
    have hq : (0 : Int) ≤ (2 * (l * A) + B) / (2 * B) ∧ (2 * (l * A) + (B : Int)) / (2 * B) ≤ 600000000 := by
      constructor
      · exact Int.ediv_nonneg (by omega) (by omega)
      · have := Int.ediv_le_self (2 * B : Int) (show (0 : Int) ≤ 2 * (l * A) + B by omega)
        omega
    refine ⟨dst v ((2 * (l * A) + B) / (2 * B)), ?_, ?_, ?_, fun th re wi fl su my ma sp da => ?_⟩
    · unfold dst; split <;> omega
    · unfold dst; split <;> omega
    · unfold p_Pic_changeAt p_Pic_placeOf p_Fraction_timesRounded
      rw [zI_add, zI_add, t hi]
      simp only [Option.bind_some, one0, if_false, q1, q2, z_pl]
      rw [pu_gt ((zn_in (by omega)).mpr p2), zn_cl (by omega), l3, if_pos ((lg_cmp_gt _ _).mpr (by rw [zL0, zL_lt (by omega) (by omega) (by omega) (by omega)]; omega)), zL2, zL_mul, pu_gt (by rw [zL0, zL_eq (by omega) (by omega) (by omega) (by omega)]; omega), zI_l (by omega) (by omega), zL_mul, zL_mul, zL_add]
      simp only [Option.bind_some]
      have e1 : 2 * (A : Int) * l + B = 2 * (l * A) + B := by rw [Int.mul_assoc, Int.mul_comm (A : Int) l]
      rw [pu_gt ((zn_in (by omega)).mpr p1), zn_cl (by omega), v3, e1, zL_div (by omega) (by omega) (by omega) (by omega), zL_i (by omega) (by omega), zI_sub, q_abs (by omega) (by omega), dst_abs]
    · unfold p_Mod_changeOf
      obtain ⟨t', -⟩ := @q_under th re wi fl (zI a) (zI d) ma sp da su my (zL A) (zL B) w h hw hh ((24 * y + x : Nat) : Int) a d (by omega) (by omega) a1 a2 d1 d2
      rw [m1, m2] at t'
      rw [t' ⟨by unfold inG; omega, hi⟩]
      have eq : ((24 * y + x : Nat) : Int) + 24 * d + a = ((24 * y' + x' : Nat) : Int) := by omega
      rw [eq]
      simp only [Option.bind_some]
      have hne : ¬ zI ((24 * y' + x' : Nat) : Int) = -1 := by rw [zlm1, zI_eq (by omega) (by omega) (by omega) (by omega)]; omega
      rw [if_neg hne, pu_gt ((zn_in (by omega)).mpr (by omega)), zn_cl (k := 24 * y' + x') (by omega), l4, zL2, zL_mul, pu_gt (by rw [zL0, zL_eq (by omega) (by omega) (by omega) (by omega)]; omega), pu_gt ((zn_in (by omega)).mpr (by omega)), zn_cl (by omega), v4, zI_l (by omega) (by omega), zL_mul, zL_mul, zL_add]
      have e1 : 2 * l * (A : Int) + B = 2 * (l * A) + B := by rw [Int.mul_assoc]
      rw [e1, zL_div (by omega) (by omega) (by omega) (by omega), zL_i (by omega) (by omega), q_apd (by omega) (by omega) (by omega) (by omega)]
      rfl
  · refine ⟨0, by omega, by omega, ?_, fun th re wi fl su my ma sp da => ?_⟩
    · unfold p_Pic_changeAt
      rw [zI_add, zI_add, f hi]
      rfl
    · unfold p_Mod_changeOf
      obtain ⟨-, f'⟩ := @q_under th re wi fl (zI a) (zI d) ma sp da su my (zL A) (zL B) w h hw hh ((24 * y + x : Nat) : Int) a d (by omega) (by omega) a1 a2 d1 d2
      rw [m1, m2] at f'
      rw [f' (fun q => hi q.2)]
      rfl
theorem a_change (hw : w ≤ 24) (hh : h ≤ 24) (a2 a3 : Int32) {xf xl mf ml xs ys mch : Nat → Int32} {ra rd rx ry ma' md' held : Int32} {la lb : Int64} {out : Nat → Int64} (hF : IG w h xf mf) (hG : IG w h xl ml) (hS : IS ra rd ma' md') (hC : ICh w h held xs ys mch) :
    ∃ (k : Int32) (la' lb' : Int64) (out' : Nat → Int64) (r : Int32) (ab' be' : Int64), p_Law_change a2 a3 (zI w) (zI h) (w * h) xf (w * h) xl ra rd rx ry held 12 xs 12 ys la lb 1 out = some (k, la', lb', out') ∧ p_Mod_change a2 a3 th (zI w) (zI h) re wi fl ma' md' su my ab be ma sp da 576 mf 576 ml 576 mch = some (r, k, ab', be') ∧ (k = 0 → out' 0 = r.toInt64) := by
  obtain ⟨a, rfl, a1, b1⟩ := zI_of a2
  obtain ⟨b, rfl, a2, b2⟩ := zI_of a3
  obtain ⟨c1, c2⟩ := q_needCell hw hh a1 b1 a2 b2
  obtain ⟨e1, e2⟩ := @q_isCell th re wi fl ma' md' ma sp da su my ab be w h hw hh a b a1 b1 a2 b2
  unfold p_Law_change p_Pic_change p_Mod_change
  by_cases hi : inG w h a b
  · rw [c1 hi, e1 hi]
    simp only [Option.bind_some, gs_ok, one0, if_false]
    obtain ⟨x, y, rfl, rfl, hx, hy⟩ := g_xy hi
    obtain ⟨A, B, A1, A2, B1, B2, r1, r2⟩ := @w_two 0 re wi fl ma sp da su my ab be w h hw hh xf xl mf ml xs ys mch ra rd rx ry ma' md' held la lb hF hG hS hC
    obtain ⟨c, -, -, r3, r4⟩ := c_two (rx := rx) (ry := ry) hw hh hF hG hS A1 A2 B1 B2 hx hy
    rw [r1, r2, zl24, z_pm]
    simp only [Option.bind_some, r3, r4, pu_gt in01]
    exact ⟨_, _, _, _, _, _, _, rfl, rfl, fun _ => up0 _ _⟩
  · rw [c2 hi, e2 hi]
    simp only [Option.bind_some, gs_1]
    exact ⟨1, la, lb, out, 0, ab, be, rfl, rfl, fun q => absurd q (by decide)⟩
end AL
