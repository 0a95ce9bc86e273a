/-! PURE SIDE: sums, counting loops -/
def sm (g : Nat → Int) : Nat → Int
  | 0 => 0
  | n + 1 => sm g n + g n
theorem sm_c {g g' : Nat → Int} : ∀ n, (∀ k, k < n → g k = g' k) → sm g n = sm g' n := by
  intro n
  induction n with
  | zero => intro _; rfl
  | succ n ih => intro h; show sm g n + g n = sm g' n + g' n; rw [ih (fun k hk => h k (by omega)), h n (by omega)]
theorem sm_0 {g : Nat → Int} : ∀ n, (∀ k, k < n → g k = 0) → sm g n = 0 := by
  intro n
  induction n with
  | zero => intro _; rfl
  | succ n ih => intro h; show sm g n + g n = 0; rw [ih (fun k hk => h k (by omega)), h n (by omega)]; rfl
theorem sm_add (g : Nat → Int) (a : Nat) : ∀ b, sm g (a + b) = sm g a + sm (fun i => g (a + i)) b := by
  intro b
  induction b with
  | zero => show sm g a = sm g a + 0; omega
  | succ b ih => show sm g (a + b) + g (a + b) = sm g a + (sm (fun i => g (a + i)) b + g (a + b)); rw [ih]; omega
theorem sm_cut {g : Nat → Int} {m n : Nat} (hm : m ≤ n) (h : ∀ k, m ≤ k → k < n → g k = 0) : sm g n = sm g m := by
  obtain ⟨b, rfl⟩ : ∃ b, n = m + b := ⟨n - m, by omega⟩
  rw [sm_add, sm_0 b (fun k hk => h (m + k) (by omega) (by omega))]; omega
theorem sm_le {g : Nat → Int} {B : Int} : ∀ n : Nat, (∀ k, k < n → 0 ≤ g k ∧ g k ≤ B) → 0 ≤ sm g n ∧ sm g n ≤ n * B := by
  intro n
  induction n with
  | zero => intro _; exact ⟨Int.le_refl _, by show (0 : Int) ≤ _; simp⟩
  | succ n ih =>
    intro h
    have h1 := ih (fun k hk => h k (by omega))
    have h2 := h n (by omega)
    have h3 : ((n + 1 : Nat) : Int) * B = n * B + B := by rw [Int.natCast_add, Int.add_mul]; simp
    have h4 : sm g (n + 1) = sm g n + g n := rfl
    omega
theorem sm_ge {g : Nat → Int} : ∀ n : Nat, (∀ k, k < n → 0 ≤ g k) → ∀ j, j < n → g j ≤ sm g n := by
  intro n
  induction n with
  | zero => intro _ j hj; omega
  | succ n ih =>
    intro h j hj
    have h0 : ∀ m, m ≤ n → 0 ≤ sm g m := by
      intro m
      induction m with
      | zero => intro _; exact Int.le_refl _
      | succ m im => intro hm; have := im (by omega); have := h m (by omega); show 0 ≤ sm g m + g m; omega
    show g j ≤ sm g n + g n
    by_cases e : j = n
    · subst e; have := h0 j (by omega); omega
    · have := ih (fun k hk => h k (by omega)) j (by omega); have := h n (by omega); omega
theorem sm_plus (g g' : Nat → Int) : ∀ n, sm (fun k => g k + g' k) n = sm g n + sm g' n := by
  intro n
  induction n with
  | zero => rfl
  | succ n ih => show sm (fun k => g k + g' k) n + (g n + g' n) = (sm g n + g n) + (sm g' n + g' n); rw [ih]; omega
theorem sm_mul (c : Int) (g : Nat → Int) : ∀ n, sm (fun k => c * g k) n = c * sm g n := by
  intro n
  induction n with
  | zero => show (0 : Int) = c * 0; simp
  | succ n ih => show sm (fun k => c * g k) n + c * g n = c * (sm g n + g n); rw [ih, Int.mul_add]
/-- one place changed -/
theorem sm_up {g g' : Nat → Int} {p : Nat} (hne : ∀ k, k ≠ p → g' k = g k) : ∀ n, sm g' n = sm g n + (if p < n then g' p - g p else 0) := by
  intro n
  induction n with
  | zero => rfl
  | succ n ih =>
    show sm g' n + g' n = sm g n + g n + _
    rw [ih]
    by_cases e : n = p
    · subst e; rw [if_neg (by omega), if_pos (by omega)]; omega
    · rw [hne n e]
      by_cases hp : p < n
      · rw [if_pos hp, if_pos (by omega)]; omega
      · rw [if_neg hp, if_neg (by omega)]; omega
/-- the reference's places, row by row -/
theorem sm_rows (G : Nat → Int) : ∀ m, sm G (24 * m) = sm (fun y => sm (fun x => G (24 * y + x)) 24) m := by
  intro m
  induction m with
  | zero => rfl
  | succ m ih =>
    show sm G (24 * m + 24) = sm (fun y => sm (fun x => G (24 * y + x)) 24) m + sm (fun x => G (24 * m + x)) 24
    rw [sm_add, ih]
theorem sm_grid {w h : Nat} (hw : w ≤ 24) (hh : h ≤ 24) {G : Nat → Int} (hz : ∀ k : Nat, k < 576 → ¬ inG w h ((k : Int) % 24) ((k : Int) / 24) → G k = 0) : sm G 576 = sm (fun y => sm (fun x => G (24 * y + x)) w) h := by
  rw [show 576 = 24 * 24 from rfl, sm_rows]
  rw [sm_cut (m := h) hh (fun y h1 h2 => sm_0 24 (fun x hx => hz _ (by omega) (by unfold inG; omega)))]
  apply sm_c
  intro y hy
  exact sm_cut hw (fun x h1 h2 => hz _ (by omega) (by unfold inG; omega))
/-- a list of places and the marks that it leaves: for every weight the same sum -/
def Ls (c : Nat → Int) (P : Nat → Nat) (n : Nat) : Prop := (∀ j, c j = 0 ∨ c j = 1) ∧ ∀ G : Nat → Int, sm (fun j => c j * G j) 576 = sm (fun k => G (P k)) n
theorem ls_0 : Ls (fun _ => 0) (fun _ => 0) 0 := ⟨fun _ => Or.inl rfl, fun G => sm_0 576 (fun k _ => by simp)⟩
theorem ls_P {c : Nat → Int} {P P' : Nat → Nat} {n : Nat} (h : Ls c P n) (hp : ∀ k, k < n → P' k = P k) : Ls c P' n := ⟨h.1, fun G => by rw [h.2 G]; exact sm_c n (fun k hk => by rw [hp k hk])⟩
theorem ls_in {c : Nat → Int} {P : Nat → Nat} {n : Nat} (h : Ls c P n) {p : Nat} (hp : p < 576) : c p = 1 ↔ ∃ k, k < n ∧ P k = p := by
  have e := h.2 (fun j => if j = p then 1 else 0)
  have e1 : sm (fun j => c j * (if j = p then 1 else 0)) 576 = c p := by
    have := sm_up (g := fun _ => 0) (g' := fun j => c j * (if j = p then 1 else 0)) (p := p) (fun k hk => by simp [hk]) 576
    rw [this, sm_0 576 (fun _ _ => rfl), if_pos hp]
    simp
  rw [e1] at e
  constructor
  · intro h1
    rw [h1] at e
    by_cases hx : ∃ k, k < n ∧ P k = p
    · exact hx
    · rw [sm_0 n (fun k hk => by rw [if_neg (fun q => hx ⟨k, hk, q⟩)])] at e
      omega
  · rintro ⟨k, hk, rfl⟩
    have := sm_ge (g := fun j => if P j = P k then 1 else 0) n (fun j _ => by (try dsimp only); split <;> omega) k hk
    simp only [if_true] at this
    rcases h.1 (P k) with h0 | h0
    · omega
    · exact h0
theorem ls_inj {c : Nat → Int} {P : Nat → Nat} {n : Nat} (h : Ls c P n) {i k : Nat} (hi : i < n) (hk : k < n) (hp : P i < 576) (e : P i = P k) : i = k := by
  by_cases hik : i = k
  · exact hik
  · exfalso
    have e0 := h.2 (fun j => if j = P i then 1 else 0)
    have e1 : sm (fun j => c j * (if j = P i then 1 else 0)) 576 = c (P i) := by
      have := sm_up (g := fun _ => 0) (g' := fun j => c j * (if j = P i then 1 else 0)) (p := P i) (fun k hk => by simp [hk]) 576
      rw [this, sm_0 576 (fun _ _ => rfl), if_pos hp]
      simp
    rw [e1] at e0
    -- take k away: what is left still counts i
    have e2 := sm_up (g := fun j => if j = k then 0 else if P j = P i then 1 else 0) (g' := fun j => if P j = P i then (1 : Int) else 0) (p := k) (fun j hj => by simp [hj]) n
    have e3 := sm_ge (g := fun j => if j = k then (0 : Int) else if P j = P i then 1 else 0) n (fun j _ => by (try dsimp only); split; omega; split <;> omega) i hi
    simp only [if_pos hk, if_true, if_neg hik, ← e] at e2 e3
    rcases h.1 (P i) with h0 | h0 <;> omega
theorem ls_add {c c' : Nat → Int} {P P' : Nat → Nat} {n p : Nat} (h : Ls c P n) (hp : p < 576) (h0 : c p = 0) (h1 : c' p = 1) (hc : ∀ j, j ≠ p → c' j = c j) (hP : ∀ k, k < n → P' k = P k) (hn : P' n = p) : Ls c' P' (n + 1) := by
  refine ⟨fun j => ?_, fun G => ?_⟩
  · by_cases e : j = p
    · subst e; exact Or.inr h1
    · rw [hc j e]; exact h.1 j
  · have := sm_up (g := fun j => c j * G j) (g' := fun j => c' j * G j) (p := p) (fun k hk => by (try dsimp only); rw [hc k hk]) 576
    rw [this, h.2 G, if_pos hp, h0, h1]
    show _ = sm (fun k => G (P' k)) n + G (P' n)
    rw [hn, sm_c (g := fun k => G (P' k)) (g' := fun k => G (P k)) n (fun k hk => by rw [hP k hk])]
    simp
theorem ls_rem {c c' : Nat → Int} {P P' : Nat → Nat} {n i p : Nat} (h : Ls c P n) (hi : i < n) (hp : p < 576) (hpi : P i = p) (h1 : c' p = 0) (hc : ∀ j, j ≠ p → c' j = c j) (hP : ∀ k, k ≠ i → P' k = P k) (hn : P' i = P (n - 1)) : Ls c' P' (n - 1) := by
  have hcp : c p = 1 := (ls_in h hp).mpr ⟨i, hi, hpi⟩
  refine ⟨fun j => ?_, fun G => ?_⟩
  · by_cases e : j = p
    · subst e; exact Or.inl h1
    · rw [hc j e]; exact h.1 j
  · have e1 := sm_up (g := fun j => c j * G j) (g' := fun j => c' j * G j) (p := p) (fun k hk => by (try dsimp only); rw [hc k hk]) 576
    rw [e1, h.2 G, if_pos hp, hcp, h1]
    have e2 := sm_up (g := fun k => G (P k)) (g' := fun k => G (P' k)) (p := i) (fun k hk => by (try dsimp only); rw [hP k hk]) (n - 1)
    rw [e2, hn, hpi]
    obtain ⟨m, rfl⟩ : ∃ m, n = m + 1 := ⟨n - 1, by omega⟩
    rw [Nat.add_sub_cancel]
    show sm (fun k => G (P k)) m + G (P m) + (0 * G p - 1 * G p) = _
    by_cases e : i < m
    · rw [if_pos e]; omega
    · have : i = m := by omega
      subst this
      rw [if_neg e, hpi]; omega
/-- a counting loop -/
theorem pu_for {S E σ : Type} {f : S → Option (S ⊕ E)} (enc : Nat → σ → S) (I : Nat → σ → Prop) (P : E → Prop) (n : Nat)
    (step : ∀ k s, k < n → I k s → (∃ s', f (enc k s) = some (.inl (enc (k + 1) s')) ∧ I (k + 1) s') ∨ (∃ e, f (enc k s) = some (.inr e) ∧ P e))
    (fin : ∀ s, I n s → ∃ e, f (enc n s) = some (.inr e) ∧ P e) {k0 : Nat} {s0 : σ} (hk : k0 ≤ n) (h0 : I k0 s0) : ∃ e, pu_loop f (enc k0 s0) = some e ∧ P e := by
  have key : ∀ d k s, k + d = n → I k s → ∃ e, pu_it f (d + 1) (enc k s) = some e ∧ P e := by
    intro d
    induction d with
    | zero =>
      intro k s e hI
      have : k = n := by omega
      subst this
      obtain ⟨e, h1, h2⟩ := fin s hI
      exact ⟨e, by unfold pu_it; rw [h1], h2⟩
    | succ d ih =>
      intro k s e hI
      rcases step k s (by omega) hI with ⟨s', h1, h2⟩ | ⟨e, h1, h2⟩
      · obtain ⟨e, h3, h4⟩ := ih (k + 1) s' (by omega) h2
        exact ⟨e, by unfold pu_it; rw [h1]; exact h3, h4⟩
      · exact ⟨e, by unfold pu_it; rw [h1], h2⟩
  obtain ⟨e, h1, h2⟩ := key (n - k0) k0 s0 (by omega) h0
  exact ⟨e, pu_loop_of h1, h2⟩
/-- the same where nothing leaves early and the state is known -/
theorem pu_fun {S E σ : Type} {f : S → Option (S ⊕ E)} (enc : Nat → σ → S) (st : Nat → σ) (n : Nat)
    (step : ∀ k, k < n → f (enc k (st k)) = some (.inl (enc (k + 1) (st (k + 1))))) {e : E} (fin : f (enc n (st n)) = some (.inr e)) : pu_loop f (enc 0 (st 0)) = some e := by
  obtain ⟨e', h1, rfl⟩ := pu_for (f := f) enc (fun k s => s = st k) (fun e' => e' = e) n (fun k s hk hs => by subst hs; exact Or.inl ⟨_, step k hk, rfl⟩) (fun s hs => by subst hs; exact ⟨e, fin, rfl⟩) (Nat.zero_le n) rfl
  exact h1
/-- counters -/
theorem zI_s (k : Nat) : zI (k : Int) + 1 = zI ((k + 1 : Nat) : Int) := by rw [zl1, zI_add]; congr 1
theorem zn_le {n k : Nat} (hn : n ≤ 1000000) (hk : k ≤ 1000000) : zI (n : Int) ≤ zI (k : Int) ↔ n ≤ k := by
  rw [zI_le (by omega) (by omega) (by omega) (by omega)]; omega
theorem zn_lt {n k : Nat} (hn : n ≤ 1000000) (hk : k ≤ 1000000) : zI (n : Int) < zI (k : Int) ↔ n < k := by
  rw [zI_lt (by omega) (by omega) (by omega) (by omega)]; omega
theorem zn_eq {n k : Nat} (hn : n ≤ 1000000) (hk : k ≤ 1000000) : zI (n : Int) = zI (k : Int) ↔ n = k := by
  rw [zI_eq (by omega) (by omega) (by omega) (by omega)]; omega
theorem zn_in {n k : Nat} (hk : k ≤ 1000000) : vp_in (zI (k : Int)) n ↔ k < n := by
  rw [zI_in (by omega) (by omega)]; omega
theorem zn_cl {k : Nat} (hk : k ≤ 1000000) : (zI (k : Int)).toNatClampNeg = k := by rw [zI_cl (by omega) (by omega)]; omega
theorem zl576 : (576 : Int32) = zI ((576 : Nat) : Int) := by decide
theorem zl0n : (0 : Int32) = zI ((0 : Nat) : Int) := by decide
theorem zL0 : (0 : Int64) = zL 0 := by decide
theorem zL1 : (1 : Int64) = zL 1 := by decide
theorem zL2 : (2 : Int64) = zL 2 := by decide
/-- more pigeons than holes -/
theorem pigeon : ∀ (N n : Nat) (f : Nat → Nat), (∀ i, i < n → f i < N) → (∀ i k, i < n → k < n → f i = f k → i = k) → n ≤ N := by
  intro N
  induction N with
  | zero =>
    intro n f h _
    by_cases h0 : n = 0
    · omega
    · have := h 0 (by omega); omega
  | succ N ih =>
    intro n f h hj
    by_cases hx : ∃ i, i < n ∧ f i = N
    · obtain ⟨i, hi, e⟩ := hx
      -- the last one takes the place of i
      have := ih (n - 1) (fun k => if k = i then f (n - 1) else f k) (fun k hk => by
        try dsimp only
        by_cases e1 : k = i
        · rw [if_pos e1]
          have h1 := h (n - 1) (by omega)
          have : f (n - 1) ≠ N := fun q => by have := hj (n - 1) i (by omega) hi (by omega); omega
          omega
        · rw [if_neg e1]
          have h1 := h k (by omega)
          have : f k ≠ N := fun q => e1 (hj k i (by omega) hi (by omega))
          omega) (fun a b ha hb q => by
        try dsimp only at q
        by_cases e1 : a = i
        · by_cases e2 : b = i
          · omega
          · rw [if_pos e1, if_neg e2] at q
            have := hj (n - 1) b (by omega) (by omega) q
            omega
        · by_cases e2 : b = i
          · rw [if_neg e1, if_pos e2] at q
            have := hj a (n - 1) (by omega) (by omega) q
            omega
          · rw [if_neg e1, if_neg e2] at q
            exact hj a b (by omega) (by omega) q)
      omega
    · have := ih n f (fun i hi => by have := h i hi; have : f i ≠ N := fun q => hx ⟨i, hi, q⟩; omega) hj
      omega
/-! Euclid: both ways answer the greatest common divisor -/
theorem lc_eq (a b : Int64) : lg_cmp a b = 0 ↔ a = b := lg_cmp_eq a b
theorem zL_ne {b : Int} (h1 : 0 ≤ b) (h2 : b ≤ 9223372036854775807) : lg_cmp (zL b) 0 = 0 ↔ b = 0 := by
  rw [lc_eq, zL0]; exact zL_eq (by omega) (by omega) (by omega) (by omega)
theorem e_mod {a b : Nat} (ha : a < 2 ^ 50) (hb : b < 2 ^ 50) : ∃ y, pu_loop p_Mod_divisor_L3 (zL a, zL b) = some (zL (Nat.gcd a b), y) := by
  obtain ⟨e, h1, y, rfl⟩ := pu_rule (f := p_Mod_divisor_L3) (fun s => ∃ x y : Nat, s = (zL x, zL y) ∧ x < 2 ^ 50 ∧ y < 2 ^ 50 ∧ Nat.gcd x y = Nat.gcd a b) (fun e => ∃ y, e = (zL (Nat.gcd a b), y)) (fun s => s.2.toInt.toNat) (by
    rintro _ ⟨x, y, rfl, hx, hy, hg⟩
    unfold p_Mod_divisor_L3
    dsimp only
    by_cases h0 : y = 0
    · subst h0
      refine Or.inr ⟨(zL x, zL (0 : Nat)), by rw [if_pos ((zL_ne (b := ((0 : Nat) : Int)) (by omega) (by omega)).mpr rfl)], zL (0 : Nat), ?_⟩
      rw [← hg, Nat.gcd_zero_right]
    · refine Or.inl ⟨(zL y, zL ((x % y : Nat) : Int)), ?_, ⟨y, x % y, rfl, hy, by have := Nat.mod_lt x (show 0 < y by omega); omega, ?_⟩, ?_⟩
      · rw [if_neg (fun q => h0 (by have := (zL_ne (by omega) (by omega)).mp q; omega)), pu_gt (fun q => h0 (by rw [zL0, zL_eq (by omega) (by omega) (by omega) (by omega)] at q; omega)), zL_rem (by omega) (by omega) (by omega) (by omega)]
        rfl
      · rw [← hg, Nat.gcd_comm x y, Nat.gcd_rec y x, Nat.gcd_comm]
      · dsimp only
        have := Nat.mod_lt x (show 0 < y by omega)
        rw [zL_t (by omega) (by omega), zL_t (by omega) (by omega)]
        omega) (zL a, zL b) ⟨a, b, rfl, ha, hb, rfl⟩
  exact ⟨y, h1⟩
theorem e_cls {a b : Nat} (ha : a < 2 ^ 50) (hb : b < 2 ^ 50) : p_Fraction_commonOf (zL a) (zL b) = some (zL (Nat.gcd a b)) := by
  obtain ⟨e, h1, y, rfl⟩ := pu_for (f := p_Fraction_commonOf_L1) (σ := Nat × Nat) (fun k s => (zL s.1, zL s.2, zI k)) (fun k s => s.1 < 2 ^ 50 ∧ s.2 < 2 ^ 50 ∧ Nat.gcd s.1 s.2 = Nat.gcd a b ∧ (k = 0 ∨ (s.2 < s.1 ∧ s.1 * s.2 * 2 ^ k < 2 ^ 101))) (fun e => ∃ y, e = (zL (Nat.gcd a b), y)) 100 (by
    rintro k ⟨x, y⟩ hk ⟨hx, hy, hg, hb⟩
    unfold p_Fraction_commonOf_L1
    dsimp only at hx hy hg hb ⊢
    have hk0 : ¬ (100 : Int32) ≤ zI (k : Int) := by rw [show (100 : Int32) = zI ((100 : Nat) : Int) by decide, zn_le (by omega) (by omega)]; omega
    rw [if_neg hk0]
    by_cases h0 : y = 0
    · subst h0
      refine Or.inr ⟨(zL x, zL (0 : Nat), zI k), by rw [if_pos ((zL_ne (b := ((0 : Nat) : Int)) (by omega) (by omega)).mpr rfl)], (zL (0 : Nat), zI k), ?_⟩
      rw [← hg, Nat.gcd_zero_right]
    · refine Or.inl ⟨(y, x % y), ?_, hy, by have := Nat.mod_lt x (show 0 < y by omega); omega, ?_, Or.inr ⟨Nat.mod_lt x (by omega), ?_⟩⟩
      · rw [if_neg (fun q => h0 (by have := (zL_ne (by omega) (by omega)).mp q; omega)), pu_gt (fun q => h0 (by rw [zL0, zL_eq (by omega) (by omega) (by omega) (by omega)] at q; omega)), zL_rem (by omega) (by omega) (by omega) (by omega), zI_s]
        rfl
      · rw [← hg, Nat.gcd_comm x y, Nat.gcd_rec y x, Nat.gcd_comm]
      · dsimp only
        have hm := Nat.mod_lt x (show 0 < y by omega)
        rcases hb with rfl | ⟨hb1, hb2⟩
        · have h2 : y * (x % y) < 2 ^ 50 * 2 ^ 50 := Nat.mul_lt_mul'' hy (by omega)
          have : y * (x % y) * 2 ^ (0 + 1) = y * (x % y) * 2 := rfl
          rw [this]
          have : (2 : Nat) ^ 101 = 2 ^ 50 * 2 ^ 50 * 2 := by decide
          omega
        · have h2 : x % y * 2 ≤ x := by
            have := Nat.div_add_mod x y
            have h3 : 1 ≤ x / y := (Nat.le_div_iff_mul_le (by omega)).mpr (by omega)
            have h4 : y * 1 ≤ y * (x / y) := Nat.mul_le_mul_left y h3
            omega
          have h3 : y * (x % y) * 2 ^ (k + 1) ≤ x * y * 2 ^ k := by
            have : y * (x % y) * 2 ^ (k + 1) = y * (x % y * 2) * 2 ^ k := by
              rw [Nat.pow_succ, ← Nat.mul_assoc y]
              rw [Nat.mul_comm (2 ^ k) 2, ← Nat.mul_assoc]
            rw [this, Nat.mul_comm x y]
            exact Nat.mul_le_mul_right _ (Nat.mul_le_mul_left _ h2)
          omega) (by
    rintro ⟨x, y⟩ ⟨hx, hy, hg, hb⟩
    dsimp only at hx hy hg hb ⊢
    have hy0 : y = 0 := by
      rcases hb with h | ⟨h1, h2⟩
      · omega
      · by_cases h0 : y = 0
        · exact h0
        · exfalso
          have : 2 * 1 ≤ x * y := Nat.mul_le_mul (by omega) (by omega)
          have : 2 * 2 ^ 100 ≤ x * y * 2 ^ 100 := Nat.mul_le_mul_right _ (by omega)
          have : (2 : Nat) ^ 101 = 2 * 2 ^ 100 := by decide
          omega
    subst hy0
    have h100 : (100 : Int32) ≤ zI ((100 : Nat) : Int) := by decide
    refine ⟨(zL x, zL (0 : Nat), zI (100 : Nat)), ?_, (zL (0 : Nat), zI (100 : Nat)), ?_⟩
    · unfold p_Fraction_commonOf_L1
      dsimp only
      rw [if_pos h100]
    · rw [← hg, Nat.gcd_zero_right]) (k0 := 0) (s0 := (a, b)) (by omega) ⟨ha, hb, rfl, Or.inl rfl⟩
  unfold p_Fraction_commonOf
  rw [zl0n, h1]
  rfl
