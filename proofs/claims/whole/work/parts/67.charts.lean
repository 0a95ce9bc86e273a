/-! PURE SIDE: charts -/
def ICh (w h : Nat) (held : Int32) (xs ys mch : Nat → Int32) : Prop := ∃ (n : Nat) (c : Nat → Int) (P : Nat → Nat), n ≤ 12 ∧ held = zI n ∧ Ls c P n ∧ (∀ j, mch j = zI (c j)) ∧ ∀ k, k < n → ∃ x y : Nat, x < w ∧ y < h ∧ xs k = zI x ∧ ys k = zI y ∧ P k = 24 * y + x
theorem zl12 : (12 : Int32) = zI ((12 : Nat) : Int) := by decide
theorem zc0 {c : Int} (h : c = 0 ∨ c = 1) : zI c = 0 ↔ c = 0 := by rw [zl0, zI_eq (by omega) (by omega) (by omega) (by omega)]
section AC
variable {th re wi fl ac dn ma sp da : Int32} {su my ab be : Int64} {w h : Nat}
theorem q_chartsNow {mch : Nat → Int32} {c : Nat → Int} {P : Nat → Nat} {n : Nat} (hL : Ls c P n) (hc : ∀ j, mch j = zI (c j)) : p_Mod_chartsNow th (zI w) (zI h) re wi fl ac dn su my ab be ma sp da 576 mch = some (zI n) := by
  have h1 : sm c 576 = n := by
    have := hL.2 (fun _ => 1)
    simp only [Int.mul_one] at this
    rw [show (fun j => c j) = c from rfl] at this
    rw [this]
    clear this hL
    induction n with
    | zero => rfl
    | succ n ih => show sm (fun _ => (1 : Int)) n + 1 = _; rw [ih]; omega
  have h2 : pu_loop (p_Mod_chartsNow_L1 576 mch) (0, 0) = some (zI (sm c 576), zI ((576 : Nat) : Int)) := by
    have := pu_fun (f := p_Mod_chartsNow_L1 576 mch) (σ := Int) (fun k s => (zI s, zI (k : Int))) (fun k => sm c k) 576 (fun k hk => by
      unfold p_Mod_chartsNow_L1
      dsimp only
      rw [if_neg (by rw [zl576, zn_le (by omega) (by omega)]; omega), pu_gt ((zn_in (by omega)).mpr hk), zn_cl (by omega), hc k, zI_s]
      rcases hL.1 k with h0 | h0
      · rw [if_pos ((zc0 (hL.1 k)).mpr h0)]
        show _ = some (Sum.inl (zI (sm c k + c k), _))
        rw [h0, Int.add_zero]
      · rw [if_neg (fun q => by have := (zc0 (hL.1 k)).mp q; omega)]
        show _ = some (Sum.inl (zI (sm c k + c k), _))
        rw [h0, zl1, zI_add]) (e := (zI (sm c 576), zI ((576 : Nat) : Int))) (by
      unfold p_Mod_chartsNow_L1
      dsimp only
      rw [if_pos (by decide)])
    exact this
  unfold p_Mod_chartsNow
  rw [h2, h1]
  rfl
theorem q_find {xs ys : Nat → Int32} {P : Nat → Nat} {n : Nat} (hn : n ≤ 12) {x y : Nat} (hw : w ≤ 24) (hh : h ≤ 24) (hx : x < w) (hy : y < h) (hP : ∀ k, k < n → ∃ x y : Nat, x < w ∧ y < h ∧ xs k = zI x ∧ ys k = zI y ∧ P k = 24 * y + x) :
    (∃ i, i < n ∧ P i = 24 * y + x ∧ p_Charts_find (zI x) (zI y) (zI n) 12 xs 12 ys = some (zI (i : Int))) ∨ ((∀ i, i < n → P i ≠ 24 * y + x) ∧ p_Charts_find (zI x) (zI y) (zI n) 12 xs 12 ys = some (-1)) := by
  obtain ⟨e, h1, h2⟩ := pu_for (f := p_Charts_find_L1 (zI x) (zI y) (zI n) 12 xs 12 ys) (σ := Unit) (fun k _ => zI (k : Int)) (fun k _ => ∀ i, i < k → P i ≠ 24 * y + x) (fun e => (∃ i, i < n ∧ P i = 24 * y + x ∧ e = .inr (zI (i : Int))) ∨ ((∀ i, i < n → P i ≠ 24 * y + x) ∧ ∃ q, e = .inl q)) n (by
    intro k _ hk hI
    obtain ⟨x', y', hx', hy', e1, e2, e3⟩ := hP k hk
    unfold p_Charts_find_L1
    rw [if_neg (by rw [zn_le (by omega) (by omega)]; omega), pu_gt ((zn_in (by omega)).mpr (by omega)), zn_cl (by omega), e1, pu_gt ((zn_in (by omega)).mpr (by omega)), e2, zI_s]
    simp only [zn_eq (show x' ≤ 1000000 by omega) (show x ≤ 1000000 by omega), zn_eq (show y' ≤ 1000000 by omega) (show y ≤ 1000000 by omega)]
    by_cases ex : x' = x
    · rw [if_pos ex]
      by_cases ey : y' = y
      · rw [if_pos ey]
        exact Or.inr ⟨_, rfl, Or.inl ⟨k, hk, by omega, rfl⟩⟩
      · rw [if_neg ey]
        refine Or.inl ⟨(), rfl, fun i hi => ?_⟩
        by_cases ei : i = k
        · subst ei; omega
        · exact hI i (by omega)
    · rw [if_neg ex]
      refine Or.inl ⟨(), rfl, fun i hi => ?_⟩
      by_cases ei : i = k
      · subst ei; omega
      · exact hI i (by omega)) (by
    intro _ hI
    unfold p_Charts_find_L1
    rw [if_pos (by rw [zn_le (by omega) (by omega)]; omega)]
    exact ⟨_, rfl, Or.inr ⟨hI, _, rfl⟩⟩) (k0 := 0) (s0 := ()) (by omega) (fun i hi => by omega)
  unfold p_Charts_find
  rw [zl0n, h1]
  rcases h2 with ⟨i, hi, e1, rfl⟩ | ⟨hI, q, rfl⟩
  · exact Or.inl ⟨i, hi, e1, rfl⟩
  · exact Or.inr ⟨hI, rfl⟩
/-- chart: a chart goes on or off -/
theorem a_chart (hw : w ≤ 24) (hh : h ≤ 24) (a2 a3 a4 : Int32) (h4 : a4 = 0 ∨ a4 = 1) {held : Int32} {xs ys mch : Nat → Int32} {out : Nat → Int64} (hC : ICh w h held xs ys mch) :
    ∃ (k held' : Int32) (xs' ys' : Nat → Int32) (out' : Nat → Int64) (r : Int32) (mch' : Nat → Int32), p_Law_chart a2 a3 a4 (zI w) (zI h) held 12 xs 12 ys 1 out = some (k, held', xs', ys', out') ∧ p_Mod_chart a2 a3 a4 th (zI w) (zI h) re wi fl ac dn su my ab be ma sp da 576 mch = some (r, k, mch') ∧ (k = 0 → (r = 0 ∧ out' 0 = 0) ∨ (r = 1 ∧ out' 0 = 1)) ∧ ICh w h held' xs' ys' mch' := by
  obtain ⟨a, rfl, a1, b1⟩ := zI_of a2
  obtain ⟨b, rfl, a2, b2⟩ := zI_of a3
  obtain ⟨c1, c2⟩ := q_needCell hw hh a1 b1 a2 b2
  obtain ⟨e1, e2⟩ := @q_isCell th re wi fl ac dn ma sp da su my ab be w h hw hh a b a1 b1 a2 b2
  obtain ⟨n, c, P, hn, rfl, hL, hc, hP⟩ := id hC
  have hnow := @q_chartsNow th re wi fl ac dn ma sp da su my ab be w h mch c P n hL hc
  unfold p_Law_chart p_Pic_chart p_Mod_chart
  by_cases hi : inG w h a b
  · rw [c1 hi, e1 hi]
    simp only [Option.bind_some]
    obtain ⟨x, y, rfl, rfl, hx, hy⟩ := g_xy hi
    rw [zl24, z_pm]
    have hp : 24 * y + x < 576 := by omega
    have i2 : vp_in (zI ((24 * y + x : Nat) : Int)) 576 := (zn_in (by omega)).mpr hp
    have n2 : (zI ((24 * y + x : Nat) : Int)).toNatClampNeg = 24 * y + x := zn_cl (by omega)
    simp only [n2, pu_gt i2, hc, hnow]
    have hlow : (zI (n : Int) < 12) ↔ n < 12 := by rw [zl12, zn_lt (by omega) (by omega)]
    have hful : ((12 : Int32) ≤ zI (n : Int)) ↔ 12 ≤ n := by rw [zl12, zn_le (by omega) (by omega)]
    rcases q_find hn hw hh hx hy hP with ⟨i, hi1, hi2, hf⟩ | ⟨hno, hf⟩
    · -- it is a chart
      have hcp : c (24 * y + x) = 1 := (ls_in hL hp).mpr ⟨i, hi1, hi2⟩
      have hne : ¬ zI (i : Int) = -1 := by rw [zlm1, zI_eq (by omega) (by omega) (by omega) (by omega)]; omega
      rw [hf, hcp]
      simp only [Option.bind_some, one0, if_false, hne, show ¬ zI 1 = 0 by decide]
      rcases h4 with rfl | rfl
      · -- off
        simp only [if_true, one0, if_false, Option.bind_some, gs_ok]
        have hrem : p_Charts_remove (zI (i : Int)) (zI (n : Int)) 12 xs 12 ys = some (zI ((n - 1 : Nat) : Int), upd xs i (xs (n - 1)), upd ys i (ys (n - 1))) := by
          unfold p_Charts_remove
          have en : zI (n : Int) - 1 = zI ((n - 1 : Nat) : Int) := by rw [zl1, zI_sub]; congr 1; omega
          rw [if_neg (by rw [zl0n, zn_lt (by omega) (by omega)]; omega), if_neg (by rw [zn_le (by omega) (by omega)]; omega), en, pu_gt ((zn_in (by omega)).mpr (by omega)), pu_gt ((zn_in (by omega)).mpr (by omega)), pu_gt ((zn_in (by omega)).mpr (by omega)), pu_gt ((zn_in (by omega)).mpr (by omega)), zn_cl (by omega), zn_cl (by omega)]
        rw [hrem]
        simp only [Option.bind_some, one0, if_false, pu_gt in01]
        refine ⟨_, _, _, _, _, _, _, rfl, rfl, fun _ => Or.inr ⟨rfl, up0 _ _⟩, n - 1, fun j => if j = 24 * y + x then 0 else c j, fun k => if k = i then P (n - 1) else P k, by omega, rfl, ?_, fun j => ?_, fun k hk => ?_⟩
        · exact ls_rem hL hi1 hp hi2 (if_pos rfl) (fun j hj => if_neg hj) (fun k hk => if_neg hk) (if_pos rfl)
        · by_cases ej : j = 24 * y + x
          · rw [ej, pk_us]; simp only [if_true]; rfl
          · rw [pk_un ej, hc]; simp only [ej, if_false]
        · by_cases ek : k = i
          · subst ek
            obtain ⟨x', y', q1, q2, q3, q4, q5⟩ := hP (n - 1) (by omega)
            exact ⟨x', y', q1, q2, by rw [pk_us]; exact q3, by rw [pk_us]; exact q4, by simp only [if_true]; exact q5⟩
          · obtain ⟨x', y', q1, q2, q3, q4, q5⟩ := hP k (by omega)
            exact ⟨x', y', q1, q2, by rw [pk_un ek]; exact q3, by rw [pk_un ek]; exact q4, by simp only [ek, if_false]; exact q5⟩
      · -- it was on
        simp only [if_true, one0, if_false, Option.bind_some, gs_ok, pu_gt in01]
        refine ⟨_, _, _, _, _, _, _, rfl, rfl, fun _ => Or.inl ⟨rfl, up0 _ _⟩, n, c, P, hn, rfl, hL, fun j => ?_, hP⟩
        by_cases ej : j = 24 * y + x
        · rw [ej, pk_us, hcp]; rfl
        · rw [pk_un ej, hc]
    · have hcp : c (24 * y + x) = 0 := by
        rcases hL.1 (24 * y + x) with q | q
        · exact q
        · obtain ⟨i, q1, q2⟩ := (ls_in hL hp).mp q
          exact absurd q2 (hno i q1)
      rw [hf, hcp]
      simp only [Option.bind_some, one0, if_false, if_true, show zI 0 = 0 by decide]
      rcases h4 with rfl | rfl
      · simp only [if_true, one0, if_false, Option.bind_some, gs_ok, pu_gt in01]
        refine ⟨_, _, _, _, _, _, _, rfl, rfl, fun _ => Or.inl ⟨rfl, up0 _ _⟩, n, c, P, hn, rfl, hL, fun j => ?_, hP⟩
        by_cases ej : j = 24 * y + x
        · rw [ej, pk_us, hcp]; rfl
        · rw [pk_un ej, hc]
      · simp only [one0, if_false, show ¬ (0 : Int32) = 1 by decide]
        unfold p_Charts_isFull
        simp only [hlow, hful]
        by_cases hfull : n = 12
        · rw [if_neg (by omega), if_pos (by omega)]
          simp only [Option.bind_some, gs_2, one0, if_false, if_true]
          exact ⟨2, zI n, xs, ys, out, 0, mch, rfl, rfl, fun q => absurd q (by decide), hC⟩
        · rw [if_pos (by omega), if_neg (by omega)]
          simp only [Option.bind_some, gs_ok, one0, if_false, if_true]
          have hadd : p_Charts_add (zI (x : Int)) (zI (y : Int)) (zI (n : Int)) 12 xs 12 ys = some (zI ((n + 1 : Nat) : Int), upd xs n (zI x), upd ys n (zI y)) := by
            unfold p_Charts_add
            rw [if_neg (by rw [hful]; omega), pu_gt ((zn_in (by omega)).mpr (by omega)), pu_gt ((zn_in (by omega)).mpr (by omega)), zn_cl (by omega), zI_s]
          rw [hadd]
          simp only [Option.bind_some, one0, if_false, pu_gt in01]
          refine ⟨_, _, _, _, _, _, _, rfl, rfl, fun _ => Or.inr ⟨rfl, up0 _ _⟩, n + 1, fun j => if j = 24 * y + x then 1 else c j, fun k => if k = n then 24 * y + x else P k, by omega, rfl, ?_, fun j => ?_, fun k hk => ?_⟩
          · exact ls_add hL hp hcp (if_pos rfl) (fun j hj => if_neg hj) (fun k hk => if_neg (by omega)) (if_pos rfl)
          · by_cases ej : j = 24 * y + x
            · rw [ej, pk_us]; simp only [if_true]; rfl
            · rw [pk_un ej, hc]; simp only [ej, if_false]
          · by_cases ek : k = n
            · subst ek
              exact ⟨x, y, hx, hy, pk_us, pk_us, if_pos rfl⟩
            · obtain ⟨x', y', q1, q2, q3, q4, q5⟩ := hP k (by omega)
              exact ⟨x', y', q1, q2, by rw [pk_un ek]; exact q3, by rw [pk_un ek]; exact q4, by simp only [ek, if_false]; exact q5⟩
  · rw [c2 hi, e2 hi]
    simp only [Option.bind_some, if_true]
    obtain ⟨z, hz⟩ : ∃ z, (if a4 = 0 then some (1 : Int32) else (some (zI (n : Int))).bind (fun v5 => if (12 : Int32) ≤ v5 then some 0 else some 1)) = some z := by
      rcases h4 with rfl | rfl
      · exact ⟨1, rfl⟩
      · simp only [one0, if_false, Option.bind_some]
        split <;> exact ⟨_, rfl⟩
    rw [hnow, hz]
    simp only [Option.bind_some, gs_1, if_true]
    exact ⟨1, zI n, xs, ys, out, 0, mch, rfl, rfl, fun q => absurd q (by decide), hC⟩
end AC
