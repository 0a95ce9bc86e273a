/-! PURE SIDE: growth, falseOnes, count -/
def gD (D : Nat → Int) (n : Nat) : Int := sm D n
/-- the pairs' sum and the sums' product -/
theorem lag (D M : Nat → Int) : ∀ n : Nat, sm (fun k => sm (fun z => (D k - D z) * (M k - M z)) k) n = n * sm (fun k => D k * M k) n - sm D n * sm M n := by
  have inner : ∀ (a b : Int) (n : Nat), sm (fun z => (a - D z) * (b - M z)) n = n * (a * b) - a * sm M n - b * sm D n + sm (fun k => D k * M k) n := by
    intro a b n
    induction n with
    | zero => show (0 : Int) = ((0 : Nat) : Int) * (a * b) - a * 0 - b * 0 + 0; simp
    | succ n ih =>
      show sm (fun z => (a - D z) * (b - M z)) n + (a - D n) * (b - M n) = ((n + 1 : Nat) : Int) * (a * b) - a * (sm M n + M n) - b * (sm D n + D n) + (sm (fun k => D k * M k) n + D n * M n)
      rw [ih]
      rw [Int.natCast_add]
      grind
  intro n
  induction n with
  | zero => show (0 : Int) = ((0 : Nat) : Int) * 0 - 0 * 0; simp
  | succ n ih =>
    show sm (fun k => sm (fun z => (D k - D z) * (M k - M z)) k) n + sm (fun z => (D n - D z) * (M n - M z)) n = ((n + 1 : Nat) : Int) * (sm (fun k => D k * M k) n + D n * M n) - (sm D n + D n) * (sm M n + M n)
    rw [ih, inner, Int.natCast_add]
    grind
theorem sm_bd {g : Nat → Int} {B : Int} : ∀ n : Nat, (∀ k, k < n → -B ≤ g k ∧ g k ≤ B) → -(n * B) ≤ sm g n ∧ sm g n ≤ n * B := by
  intro n
  induction n with
  | zero => intro _; show -(((0 : Nat) : Int) * B) ≤ (0 : Int) ∧ (0 : Int) ≤ ((0 : Nat) : Int) * B; simp
  | succ n ih =>
    intro h
    have h1 := ih (fun k hk => h k (by omega))
    have h2 := h n (by omega)
    have h3 : ((n + 1 : Nat) : Int) * B = n * B + B := by rw [Int.natCast_add, Int.add_mul]; simp
    have h4 : sm g (n + 1) = sm g n + g n := rfl
    omega
theorem mul_bd {a b A B : Int} (a1 : -A ≤ a) (a2 : a ≤ A) (b1 : -B ≤ b) (b2 : b ≤ B) : -(A * B) ≤ a * b ∧ a * b ≤ A * B := by
  have hA : 0 ≤ A := by omega
  have hB : 0 ≤ B := by omega
  have h1 : 0 ≤ (A - a) * (B + b) := Int.mul_nonneg (by omega) (by omega)
  have h2 : 0 ≤ (A + a) * (B - b) := Int.mul_nonneg (by omega) (by omega)
  have h3 : 0 ≤ (A - a) * (B - b) := Int.mul_nonneg (by omega) (by omega)
  have h4 : 0 ≤ (A + a) * (B + b) := Int.mul_nonneg (by omega) (by omega)
  constructor <;> grind
section AW
variable {th re wi fl ac dn ma sp da : Int32} {su my ab be : Int64} {w h : Nat}
theorem g_cls {dd dm : Nat → Int32} {D M : Nat → Int} {n : Nat} (hn : n ≤ 30) (hv : ∀ j, j < n → 0 ≤ D j ∧ D j ≤ 10000 ∧ 0 ≤ M j ∧ M j ≤ 576 ∧ dd j = zI (D j) ∧ dm j = zI (M j)) :
    pu_loop (p_Days_fit_L1 (zI n) 30 dd 30 dm) (0, 0, 0, 0, 0) = some (zL (sm D n), zL (sm M n), zL (sm (fun k => D k * M k) n), zL (sm (fun k => D k * D k) n), zI n) := by
  have := pu_fun (f := p_Days_fit_L1 (zI n) 30 dd 30 dm) (σ := Unit) (fun k _ => (zL (sm D k), zL (sm M k), zL (sm (fun k => D k * M k) k), zL (sm (fun k => D k * D k) k), zI (k : Int))) (fun _ => ()) n (fun k hk => by
    obtain ⟨v1, v2, v3, v4, v5, v6⟩ := hv k hk
    unfold p_Days_fit_L1
    dsimp only
    rw [if_neg (by rw [zn_le (by omega) (by omega)]; omega), pu_gt ((zn_in (by omega)).mpr (by omega)), pu_gt ((zn_in (by omega)).mpr (by omega)), pu_gt ((zn_in (by omega)).mpr (by omega)), zn_cl (by omega), v5, v6, zI_s, zI_l (by omega) (by omega), zI_l (by omega) (by omega), zL_add, zL_add, zL_mul, zL_mul, zL_add, zL_add]
    rfl) (e := (zL (sm D n), zL (sm M n), zL (sm (fun k => D k * M k) n), zL (sm (fun k => D k * D k) n), zI n)) (by
    unfold p_Days_fit_L1
    dsimp only
    rw [if_pos (by rw [zn_le (by omega) (by omega)]; omega)])
  exact this
theorem g_mod {dd dm : Nat → Int32} {D M : Nat → Int} {n : Nat} (hn : n ≤ 30) (hv : ∀ j, j < n → 0 ≤ D j ∧ D j ≤ 10000 ∧ 0 ≤ M j ∧ M j ≤ 576 ∧ dd j = zI (D j) ∧ dm j = zI (M j)) :
    pu_loop (p_Mod_growth_L3 (zI n) 30 dd 30 dm) (0, 0, 0) = some (zL (sm (fun k => sm (fun z => (D k - D z) * (M k - M z)) k) n), zL (sm (fun k => sm (fun z => (D k - D z) * (D k - D z)) k) n), zI n) := by
  have := pu_fun (f := p_Mod_growth_L3 (zI n) 30 dd 30 dm) (σ := Unit) (fun k _ => (zL (sm (fun k => sm (fun z => (D k - D z) * (M k - M z)) k) k), zL (sm (fun k => sm (fun z => (D k - D z) * (D k - D z)) k) k), zI (k : Int))) (fun _ => ()) n (fun k hk => by
    obtain ⟨v1, v2, v3, v4, v5, v6⟩ := hv k hk
    unfold p_Mod_growth_L3
    dsimp only
    rw [if_neg (by rw [zn_le (by omega) (by omega)]; omega)]
    generalize hS : sm (fun k => sm (fun z => (D k - D z) * (M k - M z)) k) k = S
    generalize hT : sm (fun k => sm (fun z => (D k - D z) * (D k - D z)) k) k = T
    have inner := pu_fun (f := p_Mod_growth_L7 30 dd 30 dm (zI k)) (σ := Unit) (fun z _ => (zL (S + sm (fun z => (D k - D z) * (M k - M z)) z), zL (T + sm (fun z => (D k - D z) * (D k - D z)) z), zI (z : Int))) (fun _ => ()) k (fun z hz => by
      obtain ⟨w1, w2, w3, w4, w5, w6⟩ := hv z (by omega)
      unfold p_Mod_growth_L7
      dsimp only
      have i1 : vp_in (zI (k : Int)) 30 := (zn_in (by omega)).mpr (by omega)
      have i2 : vp_in (zI (z : Int)) 30 := (zn_in (by omega)).mpr (by omega)
      rw [if_neg (by rw [zn_le (by omega) (by omega)]; omega), pu_gt i1, pu_gt i2, pu_gt i1, pu_gt i2, zn_cl (k := k) (by omega), zn_cl (k := z) (by omega), v5, v6, w5, w6, zI_s, zI_sub, zI_sub, zI_l (by omega) (by omega), zI_l (by omega) (by omega), zL_mul, zL_mul, zL_add, zL_add, Int.add_assoc, Int.add_assoc]
      rfl) (e := (zL (S + sm (fun z => (D k - D z) * (M k - M z)) k), zL (T + sm (fun z => (D k - D z) * (D k - D z)) k), zI k)) (by
      unfold p_Mod_growth_L7
      dsimp only
      rw [if_pos (by rw [zn_le (by omega) (by omega)]; omega)])
    have inner' : pu_loop (p_Mod_growth_L7 30 dd 30 dm (zI k)) (zL S, zL T, 0) = some (zL (S + sm (fun z => (D k - D z) * (M k - M z)) k), zL (T + sm (fun z => (D k - D z) * (D k - D z)) k), zI k) := by
      rw [← inner]
      show _ = pu_loop _ (zL (S + 0), zL (T + 0), zI ((0 : Nat) : Int))
      rw [Int.add_zero, Int.add_zero, ← zl0n]
    rw [inner']
    simp only [Option.bind_some, zI_s]
    subst hS hT
    rfl) (e := (zL (sm (fun k => sm (fun z => (D k - D z) * (M k - M z)) k) n), zL (sm (fun k => sm (fun z => (D k - D z) * (D k - D z)) k) n), zI n)) (by
    unfold p_Mod_growth_L3
    dsimp only
    rw [if_pos (by rw [zn_le (by omega) (by omega)]; omega)])
  exact this
theorem a_growth (a2 : Int32) {kept mdays : Int32} {dd dm mdt mkp : Nat → Int32} {sa sb : Int64} {out : Nat → Int64} (hD : IDy kept dd dm mdays mdt mkp) :
    ∃ (k : Int32) (sa' sb' : Int64) (out' : Nat → Int64) (r : Int64), p_Law_growth a2 (zI w) (zI h) kept 30 dd 30 dm sa sb 1 out = some (k, sa', sb', out') ∧ p_Mod_growth a2 th (zI w) (zI h) re wi fl ac dn su my ab be ma sp mdays 30 mdt 30 mkp = some (r, k) ∧ (k = 0 → out' 0 = r) := by
  obtain ⟨n, hn, rfl, rfl, hv⟩ := hD
  have hv' : ∃ D M : Nat → Int, ∀ j, j < n → 0 ≤ D j ∧ D j ≤ 10000 ∧ 0 ≤ M j ∧ M j ≤ 576 ∧ dd j = zI (D j) ∧ mdt j = zI (D j) ∧ dm j = zI (M j) ∧ mkp j = zI (M j) := by
    refine ⟨fun j => (dd j).toInt, fun j => (dm j).toInt, fun j hj => ?_⟩
    obtain ⟨d, v, q1, q2, q3, q4, q5, q6, q7, q8⟩ := hv j hj
    have e1 : (dd j).toInt = d := by rw [q5, zI_t (by omega) (by omega)]
    have e2 : (dm j).toInt = v := by rw [q7, zI_t (by omega) (by omega)]
    simp only [e1, e2]
    exact ⟨q1, q2, q3, q4, q5, q6, q7, q8⟩
  obtain ⟨D, M, hv⟩ := hv'
  obtain ⟨t, f⟩ := q_half a2
  unfold p_Law_growth p_Pic_growth p_Mod_growth
  by_cases hc : a2 = 0 ∨ a2 = 1
  · obtain ⟨t1, t2⟩ := t hc
    rw [t1, t2]
    simp only [Option.bind_some, gs_ok, one0, if_false]
    have k1 := g_cls hn (fun j hj => ⟨(hv j hj).1, (hv j hj).2.1, (hv j hj).2.2.1, (hv j hj).2.2.2.1, (hv j hj).2.2.2.2.1, (hv j hj).2.2.2.2.2.2.1⟩)
    have k2 := g_mod hn (fun j hj => ⟨(hv j hj).1, (hv j hj).2.1, (hv j hj).2.2.1, (hv j hj).2.2.2.1, (hv j hj).2.2.2.2.2.1, (hv j hj).2.2.2.2.2.2.2⟩)
    rw [lag D M n, lag D D n] at k2
    have bA := sm_bd (g := fun k => sm (fun z => (D k - D z) * (M k - M z)) k) (B := 30 * (10000 * 576)) n (fun k hk => by
      have := sm_bd (g := fun z => (D k - D z) * (M k - M z)) (B := 10000 * 576) k (fun z hz => by
        obtain ⟨v1, v2, v3, v4, -⟩ := hv k hk
        obtain ⟨w1, w2, w3, w4, -⟩ := hv z (by omega)
        exact mul_bd (by omega) (by omega) (by omega) (by omega))
      omega)
    have bD := sm_le (g := fun k => sm (fun z => (D k - D z) * (D k - D z)) k) (B := 30 * (10000 * 10000)) n (fun k hk => by
      have := sm_le (g := fun z => (D k - D z) * (D k - D z)) (B := 10000 * 10000) k (fun z hz => by
        obtain ⟨v1, v2, v3, v4, -⟩ := hv k hk
        obtain ⟨w1, w2, w3, w4, -⟩ := hv z (by omega)
        refine ⟨?_, (mul_bd (by omega) (by omega) (by omega) (by omega)).2⟩
        rcases Int.le_total 0 (D k - D z) with q | q
        · exact Int.mul_nonneg q q
        · exact Int.mul_nonneg_of_nonpos_of_nonpos q q)
      omega)
    have h01 : n < 2 → sm (fun k => sm (fun z => (D k - D z) * (D k - D z)) k) n = 0 := fun hn2 => sm_0 n (fun k hk => by
      have : k = 0 := by omega
      subst this
      rfl)
    rw [lag] at bA bD h01
    unfold p_Days_fit
    rw [k1, k2]
    simp only [Option.bind_some]
    rw [zI_l (show (-2147483648 : Int) ≤ (n : Int) by omega) (show (n : Int) ≤ 2147483647 by omega), zL_mul, zL_mul, zL_mul, zL_mul, zL_sub, zL_sub]
    generalize (n : Int) * sm (fun k => D k * M k) n - sm D n * sm M n = A at bA ⊢
    generalize (n : Int) * sm (fun k => D k * D k) n - sm D n * sm D n = B at bD h01 ⊢
    have cn : zI (n : Int) < 2 ↔ n < 2 := by rw [show (2 : Int32) = zI ((2 : Nat) : Int) by decide, zn_lt (by omega) (by omega)]
    have cB : 0 < lg_cmp (zL B) 0 ↔ 0 < B := by rw [lg_cmp_gt, zL0, zL_lt (by omega) (by omega) (by omega) (by omega)]
    have cB0 : lg_cmp (zL B) 0 = 0 ↔ B = 0 := zL_ne (by omega) (by omega)
    obtain ⟨g, hg, g0, g1, gz, r1, r2⟩ := f_two (A := 0) (B := 1) (by decide) (by decide) (by decide) sa sb
    have hg1 : g = 1 := by rw [hg]; rfl
    subst hg1
    have r1' : p_Fraction_become 0 1 sa sb = some (0, 1) := r1
    simp only [cn, cB, cB0]
    by_cases hB : B = 0
    · rw [if_pos hB]
      have : (if n < 2 then (p_Fraction_become 0 1 sa sb).bind (fun ((u, v) : Int64 × Int64) => some (u, v)) else if 0 < B then (p_Fraction_become (zL A) (zL B) sa sb).bind (fun ((u, v) : Int64 × Int64) => some (u, v)) else (p_Fraction_become 0 1 sa sb).bind (fun ((u, v) : Int64 × Int64) => some (u, v))) = some (0, 1) := by
        rw [r1']
        split
        · rfl
        · rw [if_neg (by omega)]; rfl
      rw [this]
      rcases hc with rfl | rfl
      · simp only [Option.bind_some, if_true, pu_gt in01]
        exact ⟨_, _, _, _, _, rfl, rfl, fun _ => up0 _ _⟩
      · simp only [Option.bind_some, one0, if_false, pu_gt in01]
        exact ⟨_, _, _, _, _, rfl, rfl, fun _ => up0 _ _⟩
    · have hn2 : ¬ n < 2 := fun q => hB (h01 q)
      rw [if_neg hB, if_neg hn2, if_pos (by omega)]
      obtain ⟨B, rfl⟩ : ∃ m : Nat, B = m := ⟨B.toNat, by omega⟩
      obtain ⟨g, hg, g0, g1, gz, r1, r2⟩ := f_two (A := A) (B := B) (by omega) (by omega) (by omega) sa sb
      rw [r1, r2]
      simp only [Option.bind_some, pu_gt gz]
      rcases hc with rfl | rfl
      · simp only [Option.bind_some, if_true, pu_gt in01]
        exact ⟨_, _, _, _, _, rfl, rfl, fun _ => up0 _ _⟩
      · simp only [Option.bind_some, one0, if_false, pu_gt in01]
        exact ⟨_, _, _, _, _, rfl, rfl, fun _ => up0 _ _⟩
  · obtain ⟨t1, t2⟩ := f hc
    rw [t1, t2]
    simp only [Option.bind_some, gs_1]
    exact ⟨1, sa, sb, out, 0, rfl, rfl, fun q => absurd q (by decide)⟩
theorem a_count (a2 : Int32) {held f0 to' be' sw sh sj sf mk mmk msp kept mdays : Int32} {xs ys mch dd dm mdt mkp : Nat → Int32} {out : Nat → Int64} (hC : ICh w h held xs ys mch) (hm : IMk mk mmk) (hs : sf = msp) (hD : IDy kept dd dm mdays mdt mkp) :
    ∃ (k : Int32) (out' : Nat → Int64) (r : Int32), p_Law_count a2 (zI w) (zI h) held f0 to' be' sw sh sj sf mk kept 1 out = some (k, out') ∧ p_Mod_count a2 th (zI w) (zI h) to' wi fl ac dn su my ab be mmk msp mdays 576 mch = some (r, k) ∧ (k = 0 → out' 0 = r.toInt64) := by
  subst hs
  obtain ⟨z, rfl, z1, z2⟩ := zI_of a2
  obtain ⟨n, c, P, hn, rfl, hL, hc, hP⟩ := hC
  obtain ⟨m, hm', rfl, rfl, -⟩ := hD
  obtain ⟨v, v1, v2, rfl, rfl⟩ := hm
  obtain ⟨f1, f2⟩ := q_within (lo := 0) (hi := 6) z1 z2 (by omega) (by omega) (by omega) (by omega)
  rw [← zl0, ← zl6] at f1 f2
  have hnow := @q_chartsNow 0 to' wi fl ac dn (zI v) sf (zI m) su my ab be w h mch c P n hL hc
  have e0 : zI z = 0 ↔ z = 0 := by rw [zl0]; exact zI_eq z1 z2 (by omega) (by omega)
  have e1 : zI z = 1 ↔ z = 1 := by rw [zl1]; exact zI_eq z1 z2 (by omega) (by omega)
  have e2 : zI z = 2 ↔ z = 2 := by rw [zl2]; exact zI_eq z1 z2 (by omega) (by omega)
  have e3 : zI z = 3 ↔ z = 3 := by rw [zl3]; exact zI_eq z1 z2 (by omega) (by omega)
  have e4 : zI z = 4 ↔ z = 4 := by rw [zl4]; exact zI_eq z1 z2 (by omega) (by omega)
  have e5 : zI z = 5 ↔ z = 5 := by rw [show (5 : Int32) = zI 5 by decide]; exact zI_eq z1 z2 (by omega) (by omega)
  have e6 : zI z = 6 ↔ z = 6 := by rw [zl6]; exact zI_eq z1 z2 (by omega) (by omega)
  unfold p_Law_count p_Pic_count p_Mod_count
  by_cases hz : 0 ≤ z ∧ z ≤ 6
  · rw [f1 hz]
    simp only [Option.bind_some, gs_ok, one0, if_false, hnow, e0, e1, e2, e3, e4, e5, e6]
    rcases (show z = 0 ∨ z = 1 ∨ z = 2 ∨ z = 3 ∨ z = 4 ∨ z = 5 ∨ z = 6 by omega) with rfl | rfl | rfl | rfl | rfl | rfl | rfl <;>
    · simp (config := { decide := true }) only [if_true, if_false, Option.bind_some, pu_gt in01]
      exact ⟨_, _, _, rfl, rfl, fun _ => up0 _ _⟩
  · rw [f2 hz]
    simp only [Option.bind_some, gs_1, e0, e1, e2, e3, e4, e5, e6]
    rw [if_neg (by omega), if_neg (by omega), if_neg (by omega), if_neg (by omega), if_neg (by omega), if_neg (by omega), if_neg (by omega)]
    exact ⟨1, out, 0, rfl, rfl, fun q => absurd q (by decide)⟩
end AW
