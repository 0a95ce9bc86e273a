/-! PURE SIDE, NUMBERS: Int32 and Int64 as images of Int (ring maps; order within bounds) -/
def zI (z : Int) : Int32 := Int32.ofInt z
def zL (z : Int) : Int64 := Int64.ofInt z
theorem zI_t {z : Int} (h1 : -2147483648 ≤ z) (h2 : z ≤ 2147483647) : (zI z).toInt = z := Int32.toInt_ofInt_of_le (by omega) (by omega)
theorem zI_self (v : Int32) : zI v.toInt = v := Int32.ofInt_toInt v
theorem zI_of (v : Int32) : ∃ z : Int, v = zI z ∧ -2147483648 ≤ z ∧ z ≤ 2147483647 := ⟨v.toInt, (zI_self v).symm, by have := Int32.le_toInt v; omega, by have := Int32.toInt_lt v; omega⟩
theorem zI_add (a b : Int) : zI a + zI b = zI (a + b) := (Int32.ofInt_add a b).symm
theorem zI_sub (a b : Int) : zI a - zI b = zI (a - b) := (Int32.ofInt_sub a b).symm
theorem zI_mul (a b : Int) : zI a * zI b = zI (a * b) := (Int32.ofInt_mul a b).symm
theorem zI_neg (a : Int) : -zI a = zI (-a) := (Int32.ofInt_neg a).symm
theorem zI_lt {a b : Int} (a1 : -2147483648 ≤ a) (a2 : a ≤ 2147483647) (b1 : -2147483648 ≤ b) (b2 : b ≤ 2147483647) : zI a < zI b ↔ a < b := by
  rw [Int32.lt_iff_toInt_lt, zI_t a1 a2, zI_t b1 b2]
theorem zI_le {a b : Int} (a1 : -2147483648 ≤ a) (a2 : a ≤ 2147483647) (b1 : -2147483648 ≤ b) (b2 : b ≤ 2147483647) : zI a ≤ zI b ↔ a ≤ b := by
  rw [Int32.le_iff_toInt_le, zI_t a1 a2, zI_t b1 b2]
theorem zI_eq {a b : Int} (a1 : -2147483648 ≤ a) (a2 : a ≤ 2147483647) (b1 : -2147483648 ≤ b) (b2 : b ≤ 2147483647) : zI a = zI b ↔ a = b := by
  constructor
  · intro h
    rw [← zI_t a1 a2, ← zI_t b1 b2, h]
  · intro h; rw [h]
theorem zI_nat (n : Nat) : nI n = zI n := by
  unfold nI zI
  apply Int32.toBitVec_inj.mp
  simp [Int32.ofNat, Int32.ofInt]
theorem zI_cl {z : Int} (h1 : 0 ≤ z) (h2 : z ≤ 2147483647) : (zI z).toNatClampNeg = z.toNat := Int32.toNatClampNeg_ofInt_of_le (by omega) (by omega)
theorem zI_in {z : Int} {n : Nat} (h1 : -2147483648 ≤ z) (h2 : z ≤ 2147483647) : vp_in (zI z) n ↔ 0 ≤ z ∧ z < n := by
  rw [vp_in_iff, zI_t h1 h2]
theorem zI_div {a b : Int} (h0 : 0 ≤ a) (h1 : a ≤ 2147483647) (h2 : 0 < b) (h3 : b ≤ 2147483647) : zI a / zI b = zI (a / b) := by
  have e := @Int32.ofInt_tdiv a b (by show -2147483648 ≤ a; omega) (by show a ≤ 2147483647; omega) (by show -2147483648 ≤ b; omega) (by show b ≤ 2147483647; omega)
  rw [Int.tdiv_eq_ediv_of_nonneg h0] at e
  exact e.symm
theorem zI_rem {a b : Int} (h0 : 0 ≤ a) (h1 : a ≤ 2147483647) (h2 : 0 < b) (h3 : b ≤ 2147483647) : zI a - zI a / zI b * zI b = zI (a % b) := by
  rw [zI_div h0 h1 h2 h3, zI_mul, zI_sub]
  congr 1
  have := Int.emod_add_mul_ediv a b
  have := Int.mul_comm b (a / b)
  omega
theorem zL_t {z : Int} (h1 : -9223372036854775808 ≤ z) (h2 : z ≤ 9223372036854775807) : (zL z).toInt = z := Int64.toInt_ofInt_of_le (by omega) (by omega)
theorem zL_add (a b : Int) : zL a + zL b = zL (a + b) := (Int64.ofInt_add a b).symm
theorem zL_sub (a b : Int) : zL a - zL b = zL (a - b) := (Int64.ofInt_sub a b).symm
theorem zL_mul (a b : Int) : zL a * zL b = zL (a * b) := (Int64.ofInt_mul a b).symm
theorem zL_neg (a : Int) : -zL a = zL (-a) := (Int64.ofInt_neg a).symm
theorem zL_lt {a b : Int} (a1 : -9223372036854775808 ≤ a) (a2 : a ≤ 9223372036854775807) (b1 : -9223372036854775808 ≤ b) (b2 : b ≤ 9223372036854775807) : zL a < zL b ↔ a < b := by
  rw [Int64.lt_iff_toInt_lt, zL_t a1 a2, zL_t b1 b2]
theorem zL_le {a b : Int} (a1 : -9223372036854775808 ≤ a) (a2 : a ≤ 9223372036854775807) (b1 : -9223372036854775808 ≤ b) (b2 : b ≤ 9223372036854775807) : zL a ≤ zL b ↔ a ≤ b := by
  rw [Int64.le_iff_toInt_le, zL_t a1 a2, zL_t b1 b2]
theorem zL_eq {a b : Int} (a1 : -9223372036854775808 ≤ a) (a2 : a ≤ 9223372036854775807) (b1 : -9223372036854775808 ≤ b) (b2 : b ≤ 9223372036854775807) : zL a = zL b ↔ a = b := by
  constructor
  · intro h
    rw [← zL_t a1 a2, ← zL_t b1 b2, h]
  · intro h; rw [h]
theorem zI_l {z : Int} (h1 : -2147483648 ≤ z) (h2 : z ≤ 2147483647) : (zI z).toInt64 = zL z := Int32.toInt64_ofInt (by show -2147483648 ≤ z; omega) (by show z ≤ 2147483647; omega)
theorem zL_i {z : Int} (h1 : -2147483648 ≤ z) (h2 : z ≤ 2147483647) : (zL z).toInt32 = zI z := by
  apply Int32.toInt_inj.mp
  rw [Int64.toInt_toInt32, zL_t (by omega) (by omega), zI_t h1 h2]
  exact Int.bmod_eq_of_le (by omega) (by omega)
theorem zL_div {a b : Int} (h0 : 0 ≤ a) (h1 : a ≤ 9223372036854775807) (h2 : 0 < b) (h3 : b ≤ 9223372036854775807) : zL a / zL b = zL (a / b) := by
  have e := @Int64.ofInt_tdiv a b (by show -9223372036854775808 ≤ a; omega) (by show a ≤ 9223372036854775807; omega) (by show -9223372036854775808 ≤ b; omega) (by show b ≤ 9223372036854775807; omega)
  rw [Int.tdiv_eq_ediv_of_nonneg h0] at e
  exact e.symm
theorem zL_rem {a b : Int} (h0 : 0 ≤ a) (h1 : a ≤ 9223372036854775807) (h2 : 0 < b) (h3 : b ≤ 9223372036854775807) : zL a - zL a / zL b * zL b = zL (a % b) := by
  rw [zL_div h0 h1 h2 h3, zL_mul, zL_sub]
  congr 1
  have := Int.emod_add_mul_ediv a b
  have := Int.mul_comm b (a / b)
  omega
theorem pu_gt {α : Type} {c : Prop} {x : Option α} (h : c) : pu_gd c x = x := by
  unfold pu_gd
  rw [if_pos h]
/-- a loop by invariant and measure -/
theorem pu_mono {S E : Type} {f : S → Option (S ⊕ E)} : ∀ {n : Nat} {s : S} {e : E}, pu_it f n s = some e → ∀ m, n ≤ m → pu_it f m s = some e := by
  intro n
  induction n with
  | zero => intro s e h; exact (pu_it_0 h).elim
  | succ n ih =>
    intro s e h m hm
    obtain ⟨r, h1, h2⟩ := pu_it_succ h
    obtain ⟨m, rfl⟩ : ∃ k, m = k + 1 := ⟨m - 1, by omega⟩
    unfold pu_it
    rw [h1]
    cases r with
    | inl s' => exact ih h2 m (by omega)
    | inr e' => exact congrArg some h2
theorem pu_loop_of {S E : Type} {f : S → Option (S ⊕ E)} {n : Nat} {s : S} {e : E} (h : pu_it f n s = some e) : pu_loop f s = some e := by
  unfold pu_loop
  split
  · rename_i hx
    obtain ⟨n', h'⟩ := Classical.choose_spec hx
    have a := pu_mono h (max n n') (Nat.le_max_left _ _)
    have b := pu_mono h' (max n n') (Nat.le_max_right _ _)
    rw [a] at b
    exact b.symm
  · rename_i hx
    exact absurd ⟨e, n, h⟩ hx
theorem pu_itr {S E : Type} {f : S → Option (S ⊕ E)} (I : S → Prop) (P : E → Prop) (μ : S → Nat) (hs : ∀ s, I s → (∃ s', f s = some (.inl s') ∧ I s' ∧ μ s' < μ s) ∨ (∃ e, f s = some (.inr e) ∧ P e)) : ∀ (n : Nat) (s : S), I s → μ s < n → ∃ e, pu_it f n s = some e ∧ P e := by
  intro n
  induction n with
  | zero => intro s _ h; omega
  | succ n ih =>
    intro s hI hμ
    rcases hs s hI with ⟨s', h1, h2, h3⟩ | ⟨e, h1, h2⟩
    · obtain ⟨e, h4, h5⟩ := ih s' h2 (by omega)
      refine ⟨e, ?_, h5⟩
      unfold pu_it
      rw [h1]
      exact h4
    · refine ⟨e, ?_, h2⟩
      unfold pu_it
      rw [h1]
theorem pu_rule {S E : Type} {f : S → Option (S ⊕ E)} (I : S → Prop) (P : E → Prop) (μ : S → Nat) (hs : ∀ s, I s → (∃ s', f s = some (.inl s') ∧ I s' ∧ μ s' < μ s) ∨ (∃ e, f s = some (.inr e) ∧ P e)) (s : S) (h : I s) : ∃ e, pu_loop f s = some e ∧ P e := by
  obtain ⟨e, h1, h2⟩ := pu_itr I P μ hs (μ s + 1) s h (by omega)
  exact ⟨e, pu_loop_of h1, h2⟩
