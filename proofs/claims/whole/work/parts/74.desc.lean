/-! PURE SIDE: spots, their facts: what describes a set of cells -/
noncomputable def nr (w h : Nat) (dk : Nat → Prop) (p : Nat) : Int := sm (fun n => ic (∃ q, nbr w h p n q ∧ dk q)) 4
noncomputable def kc (C : Nat → Prop) : Int := sm (fun k => ic (C k)) 576
def Crk (w h : Nat) (dk C : Nat → Prop) : Prop := 3 ≤ kc C ∧ (∀ p, C p → nr w h dk p ≤ 2) ∧ sm (fun k => ic (C k) * ic (nr w h dk k = 1)) 576 = 2
def Lst (C : Nat → Prop) (g : Nat → Nat) (l : Int32) : Prop := ∃ v : Nat, l = zI v ∧ (∀ k, C k → v ≤ g k) ∧ ∃ k, C k ∧ g k = v
def Gst (C : Nat → Prop) (g : Nat → Nat) (l : Int32) : Prop := ∃ v : Nat, l = zI v ∧ (∀ k, C k → g k ≤ v) ∧ ∃ k, C k ∧ g k = v
def SF (w h : Nat) (dk C : Nat → Prop) (Cg : Nat → Int) (f : Nat → Int32) : Prop :=
  f 0 = zI (kc C) ∧ f 1 = zI (sm (fun k => ic (C k) * Cg k) 576) ∧ Lst C (fun k => k % 24) (f 2) ∧ Lst C (fun k => k / 24) (f 3) ∧ Gst C (fun k => k % 24) (f 4) ∧ Gst C (fun k => k / 24) (f 5) ∧ (Crk w h dk C → f 6 = zI (kc C - 1)) ∧ (¬ Crk w h dk C → f 6 = -1)
theorem Lst_u {C : Nat → Prop} {g : Nat → Nat} {l l' : Int32} (h1 : Lst C g l) (h2 : Lst C g l') : l = l' := by
  obtain ⟨v, rfl, a, k, b, c⟩ := h1
  obtain ⟨v', rfl, a', k', b', c'⟩ := h2
  have := a k' b'
  have := a' k b
  rw [show v = v' by omega]
theorem Gst_u {C : Nat → Prop} {g : Nat → Nat} {l l' : Int32} (h1 : Gst C g l) (h2 : Gst C g l') : l = l' := by
  obtain ⟨v, rfl, a, k, b, c⟩ := h1
  obtain ⟨v', rfl, a', k', b', c'⟩ := h2
  have := a k' b'
  have := a' k b
  rw [show v = v' by omega]
theorem SF_u {w h : Nat} {dk C : Nat → Prop} {Cg : Nat → Int} {f f' : Nat → Int32} (h1 : SF w h dk C Cg f) (h2 : SF w h dk C Cg f') : ∀ j, j < 7 → f j = f' j := by
  obtain ⟨a0, a1, a2, a3, a4, a5, a6, a7⟩ := h1
  obtain ⟨b0, b1, b2, b3, b4, b5, b6, b7⟩ := h2
  have e6 : f 6 = f' 6 := by
    by_cases hc : Crk w h dk C
    · rw [a6 hc, b6 hc]
    · rw [a7 hc, b7 hc]
  intro j hj
  have : j = 0 ∨ j = 1 ∨ j = 2 ∨ j = 3 ∨ j = 4 ∨ j = 5 ∨ j = 6 := by omega
  rcases this with rfl | rfl | rfl | rfl | rfl | rfl | rfl
  · rw [a0, b0]
  · rw [a1, b1]
  · exact Lst_u a2 b2
  · exact Lst_u a3 b3
  · exact Gst_u a4 b4
  · exact Gst_u a5 b5
  · exact e6
theorem sm_one : ∀ n : Nat, sm (fun _ => 1) n = n := by
  intro n
  induction n with
  | zero => rfl
  | succ n ih => show sm (fun _ => 1) n + 1 = _; rw [ih]; omega
theorem nr_in (w h : Nat) (dk : Nat → Prop) (p : Nat) : 0 ≤ nr w h dk p ∧ nr w h dk p ≤ 4 := by
  have := sm_le (g := fun n => ic (∃ q, nbr w h p n q ∧ dk q)) (B := 1) 4 (fun k _ => by
    have := ic_01 (∃ q, nbr w h p k q ∧ dk q)
    (try dsimp only)
    omega)
  unfold nr
  omega
theorem kc_in (C : Nat → Prop) : 0 ≤ kc C ∧ kc C ≤ 576 := by
  have := sm_le (g := fun k => ic (C k)) (B := 1) 576 (fun k _ => by
    have := ic_01 (C k)
    (try dsimp only)
    omega)
  unfold kc
  omega
theorem at_mn {g : Nat → Nat} {k l : Nat} (hA : (∃ i, i < k ∧ g i = l) ∨ g k < l) : ∃ i, i < k + 1 ∧ g i = (if g k < l then g k else l) := by
  by_cases hc : g k < l
  · rw [if_pos hc]; exact ⟨k, by omega, rfl⟩
  · rw [if_neg hc]
    rcases hA with ⟨i, h1, h2⟩ | h
    · exact ⟨i, by omega, h2⟩
    · exact absurd h hc
theorem at_mx {g : Nat → Nat} {k r : Nat} (hA : (∃ i, i < k ∧ g i = r) ∨ r ≤ g k) : ∃ i, i < k + 1 ∧ g i = (if r < g k then g k else r) := by
  by_cases hc : r < g k
  · rw [if_pos hc]; exact ⟨k, by omega, rfl⟩
  · rw [if_neg hc]
    rcases hA with ⟨i, h1, h2⟩ | h
    · exact ⟨i, by omega, h2⟩
    · exact ⟨k, by omega, by omega⟩
theorem z_mn {x l : Nat} (hx : x ≤ 1000000) (hl : l ≤ 1000000) : (if zI (x : Int) < zI (l : Int) then zI (x : Int) else zI (l : Int)) = zI ((if x < l then x else l : Nat) : Int) := by
  simp only [zn_lt hx hl]
  split <;> rfl
theorem z_mx {x l : Nat} (hx : x ≤ 1000000) (hl : l ≤ 1000000) : (if zI (l : Int) < zI (x : Int) then zI (x : Int) else zI (l : Int)) = zI ((if l < x then x else l : Nat) : Int) := by
  simp only [zn_lt hl hx]
  split <;> rfl
theorem up7 (f : Nat → Int32) (b : Nat) (v0 v1 v2 v3 v4 v5 v6 : Int32) : ∃ g, upd (upd (upd (upd (upd (upd (upd f (b + 0) v0) (b + 1) v1) (b + 2) v2) (b + 3) v3) (b + 4) v4) (b + 5) v5) (b + 6) v6 = g ∧ g (b + 0) = v0 ∧ g (b + 1) = v1 ∧ g (b + 2) = v2 ∧ g (b + 3) = v3 ∧ g (b + 4) = v4 ∧ g (b + 5) = v5 ∧ g (b + 6) = v6 ∧ ∀ j, j < b → g j = f j := by
  refine ⟨_, rfl, ?_, ?_, ?_, ?_, ?_, ?_, ?_, fun j hj => ?_⟩
  all_goals (repeat rw [pk_un (by omega)])
  all_goals exact pk_us
section AE
variable {w h : Nat} {dk : Nat → Prop}
theorem d_own (hw : w ≤ 24) (hh : h ≤ 24) {F p n : Nat} {s : Nat → Int32} {jn mk : Int32} (hF : F ≤ 1000) (hp : gr w h p) (hn : n < 4) (hcl : ∀ q, gr w h q → ad p q → (sv w s q = zI (F : Int) ↔ dk q)) :
    p_Spots_ownAt (zI (((p % 24 : Nat) : Int) + dx n)) (zI (((p / 24 : Nat) : Int) + dy n)) (zI w) (zI h) jn (zI F) mk (w * h) s = some (zI (ic (∃ q, nbr w h p n q ∧ dk q))) := by
  have bx : -1 ≤ dx n ∧ dx n ≤ 1 := by unfold dx; omega
  have by' : -1 ≤ dy n ∧ dy n ≤ 1 := by unfold dy; omega
  have hp' := hp
  unfold gr at hp'
  obtain ⟨t, f⟩ := @q_spotAt w h hw hh (((p % 24 : Nat) : Int) + dx n) (((p / 24 : Nat) : Int) + dy n) (by omega) (by omega) (by omega) (by omega) jn (zI F) mk s
  unfold p_Spots_ownAt
  rcases nbr_or w h p n with ⟨q, hq⟩ | hno
  · rw [t q hq.1 hq.2.1 hq.2.2]
    simp only [Option.bind_some]
    have hcl' := hcl q hq.1 ((ad_nbr hq.1).mpr ⟨n, hn, hq⟩)
    by_cases hd : dk q
    · rw [if_pos (hcl'.mpr hd), ic_t ⟨q, hq, hd⟩]; exact congrArg some zl1
    · rw [if_neg (fun z => hd (hcl'.mp z)), ic_f (by rintro ⟨q', hq', hd'⟩; rw [nbr_u hq hq'] at hd; exact hd hd')]; exact congrArg some zl0
  · rw [f (fun q h1 h2 h3 => hno q ⟨h1, h2, h3⟩)]
    simp only [Option.bind_some]
    rw [if_neg (fun z => zF1 hF z.symm), ic_f (by rintro ⟨q, hq, -⟩; exact hno q hq)]; exact congrArg some zl0
theorem d_nb (hw : w ≤ 24) (hh : h ≤ 24) {F p : Nat} {s : Nat → Int32} {jn mk : Int32} (hF : F ≤ 1000) (hp : gr w h p) (hcl : ∀ q, gr w h q → ad p q → (sv w s q = zI (F : Int) ↔ dk q)) :
    p_Spots_neighboursOf (zI ((p % 24 : Nat) : Int)) (zI ((p / 24 : Nat) : Int)) (zI w) (zI h) jn (zI F) mk (w * h) s = some (zI (nr w h dk p)) := by
  have e0 := d_own (jn := jn) (mk := mk) hw hh hF hp (show 0 < 4 by omega) hcl
  have e1 := d_own (jn := jn) (mk := mk) hw hh hF hp (show 1 < 4 by omega) hcl
  have e2 := d_own (jn := jn) (mk := mk) hw hh hF hp (show 2 < 4 by omega) hcl
  have e3 := d_own (jn := jn) (mk := mk) hw hh hF hp (show 3 < 4 by omega) hcl
  rw [show ((p % 24 : Nat) : Int) + dx 0 = ((p % 24 : Nat) : Int) by unfold dx; simp, show ((p / 24 : Nat) : Int) + dy 0 = ((p / 24 : Nat) : Int) - 1 by unfold dy; simp; omega] at e0
  rw [show ((p % 24 : Nat) : Int) + dx 1 = ((p % 24 : Nat) : Int) + 1 by unfold dx; simp, show ((p / 24 : Nat) : Int) + dy 1 = ((p / 24 : Nat) : Int) by unfold dy; simp] at e1
  rw [show ((p % 24 : Nat) : Int) + dx 2 = ((p % 24 : Nat) : Int) by unfold dx; simp, show ((p / 24 : Nat) : Int) + dy 2 = ((p / 24 : Nat) : Int) + 1 by unfold dy; simp] at e2
  rw [show ((p % 24 : Nat) : Int) + dx 3 = ((p % 24 : Nat) : Int) - 1 by unfold dx; simp; omega, show ((p / 24 : Nat) : Int) + dy 3 = ((p / 24 : Nat) : Int) by unfold dy; simp] at e3
  unfold p_Spots_neighboursOf
  rw [zl1, zI_sub, zI_sub, zI_add, zI_add, e0, e1, e2, e3]
  simp only [Option.bind_some, zI_add]
  congr 2
  simp only [nr, sm]
  omega
theorem d_crack (hw : w ≤ 24) (hh : h ≤ 24) {F n : Nat} {s jx jy : Nat → Int32} {mk : Int32} {C : Nat → Prop} (hF : F ≤ 1000) (hL : Ls (fun p => ic (C p)) (pl jx jy) n) (hn : n ≤ w * h) (hP : ∀ k, k < n → gr w h (pl jx jy k) ∧ jx k = zI ((pl jx jy k % 24 : Nat) : Int) ∧ jy k = zI ((pl jx jy k / 24 : Nat) : Int)) (hC : ∀ p, C p → gr w h p ∧ ∀ q, gr w h q → ad p q → (sv w s q = zI (F : Int) ↔ dk q)) :
    ∃ v, p_Spots_isCrack (zI w) (zI h) (zI n) (zI F) mk (w * h) s (w * h) jx (w * h) jy = some v ∧ (Crk w h dk C → v = 1) ∧ (¬ Crk w h dk C → v = 0) := by
  have hwh := g_wh hw hh
  have hPC : ∀ k, k < n → C (pl jx jy k) := fun k hk => ic_1.mp ((ls_in hL (gr5 hh (hP k hk).1)).mpr ⟨k, hk, rfl⟩)
  have hCP : ∀ p, C p → ∃ k, k < n ∧ pl jx jy k = p := fun p hp => (ls_in hL (gr5 hh (hC p hp).1)).mp (ic_t hp)
  have hk : kc C = n := by
    have := hL.2 (fun _ => 1)
    rw [sm_one] at this
    rw [← this]
    unfold kc
    exact sm_c 576 (fun k _ => by simp)
  have hE := hL.2 (fun k => ic (nr w h dk k = 1))
  have := pu_for (f := p_Spots_isCrack_L1 (zI w) (zI h) (zI n) (zI F) mk (w * h) s (w * h) jx (w * h) jy) (σ := Unit) (fun k _ => (zI (sm (fun i => ic (nr w h dk (pl jx jy i) = 1)) k), zI (k : Int))) (fun k _ => ∀ i, i < k → nr w h dk (pl jx jy i) ≤ 2)
    (fun e => (∃ x, e = .inl (zI (sm (fun i => ic (nr w h dk (pl jx jy i) = 1)) n), x) ∧ ∀ i, i < n → nr w h dk (pl jx jy i) ≤ 2) ∨ (e = .inr 0 ∧ ∃ i, i < n ∧ 2 < nr w h dk (pl jx jy i))) n (by
    rintro k ⟨⟩ hk hI
    unfold p_Spots_isCrack_L1
    dsimp only
    obtain ⟨g1, g2, g3⟩ := hP k hk
    have nb := d_nb (jn := zI n) (mk := mk) hw hh hF g1 (hC _ (hPC k hk)).2
    rw [if_neg (by rw [zn_le (by omega) (by omega)]; omega), pu_gt ((zn_in (by omega)).mpr (by omega)), pu_gt ((zn_in (by omega)).mpr (by omega)), zn_cl (by omega), g2, g3, nb]
    simp only [Option.bind_some]
    obtain ⟨b1, b2⟩ := nr_in w h dk (pl jx jy k)
    have c1 : zI (nr w h dk (pl jx jy k)) ≤ 2 ↔ nr w h dk (pl jx jy k) ≤ 2 := by rw [zl2]; exact zI_le (by omega) (by omega) (by omega) (by omega)
    have c2 : zI (nr w h dk (pl jx jy k)) = 1 ↔ nr w h dk (pl jx jy k) = 1 := by rw [zl1]; exact zI_eq (by omega) (by omega) (by omega) (by omega)
    simp only [c1, c2]
    by_cases h2 : nr w h dk (pl jx jy k) ≤ 2
    · refine Or.inl ⟨(), ?_, fun i hi => ?_⟩
      · rw [if_pos h2]
        by_cases h1 : nr w h dk (pl jx jy k) = 1
        · rw [if_pos h1, zI_s, zl1, zI_add]
          have e5 : sm (fun i => ic (nr w h dk (pl jx jy i) = 1)) (k + 1) = sm (fun i => ic (nr w h dk (pl jx jy i) = 1)) k + 1 := by
            show sm _ k + ic (nr w h dk (pl jx jy k) = 1) = _
            rw [ic_t h1]
          rw [e5]
        · rw [if_neg h1, zI_s]
          have e5 : sm (fun i => ic (nr w h dk (pl jx jy i) = 1)) (k + 1) = sm (fun i => ic (nr w h dk (pl jx jy i) = 1)) k := by
            show sm _ k + ic (nr w h dk (pl jx jy k) = 1) = _
            rw [ic_f h1]; omega
          rw [e5]
      · by_cases ei : i = k
        · subst ei; exact h2
        · exact hI i (by omega)
    · rw [if_neg h2]
      exact Or.inr ⟨_, rfl, Or.inr ⟨rfl, k, hk, by omega⟩⟩) (by
    rintro ⟨⟩ hI
    unfold p_Spots_isCrack_L1
    dsimp only
    rw [if_pos (by rw [zn_le (by omega) (by omega)]; omega)]
    exact ⟨_, rfl, Or.inl ⟨_, rfl, hI⟩⟩) (k0 := 0) (s0 := ()) (by omega) (fun i hi => by omega)
  obtain ⟨e, h1, h2⟩ := this
  have h1' : pu_loop (p_Spots_isCrack_L1 (zI w) (zI h) (zI n) (zI F) mk (w * h) s (w * h) jx (w * h) jy) (0, 0) = some e := h1
  unfold p_Spots_isCrack
  rw [h1']
  simp only [Option.bind_some]
  rcases h2 with ⟨x, rfl, h2⟩ | ⟨rfl, i, h2, h3⟩
  · dsimp only
    have hs := sm_le (g := fun i => ic (nr w h dk (pl jx jy i) = 1)) (B := 1) n (fun k _ => by
      have := ic_01 (nr w h dk (pl jx jy k) = 1)
      (try dsimp only)
      omega)
    have c3 : zI (n : Int) < 3 ↔ n < 3 := by rw [show (3 : Int32) = zI ((3 : Nat) : Int) by decide]; exact zn_lt (by omega) (by omega)
    have c4 : zI (sm (fun i => ic (nr w h dk (pl jx jy i) = 1)) n) = 2 ↔ sm (fun i => ic (nr w h dk (pl jx jy i) = 1)) n = 2 := by rw [zl2]; exact zI_eq (by omega) (by omega) (by omega) (by omega)
    simp only [c3, c4]
    unfold Crk
    rw [hE, hk]
    by_cases h3 : n < 3
    · rw [if_pos h3]
      exact ⟨0, rfl, fun q => absurd q.1 (by omega), fun _ => rfl⟩
    · rw [if_neg h3]
      by_cases h4 : sm (fun i => ic (nr w h dk (pl jx jy i) = 1)) n = 2
      · rw [if_pos h4]
        refine ⟨1, rfl, fun _ => rfl, fun q => absurd ⟨by omega, fun p hp => ?_, h4⟩ q⟩
        obtain ⟨k, hk, rfl⟩ := hCP p hp
        exact h2 k hk
      · rw [if_neg h4]
        exact ⟨0, rfl, fun q => absurd q.2.2 h4, fun _ => rfl⟩
  · refine ⟨0, rfl, fun q => ?_, fun _ => rfl⟩
    have := q.2.1 _ (hPC i h2)
    omega
/-- the facts of a spot, as the class writes them -/
theorem d_desc (hw : w ≤ 24) (hh : h ≤ 24) {F n N : Nat} {s jx jy ch ft : Nat → Int32} {mk : Int32} {C : Nat → Prop} {Cg : Nat → Int} (hF : F ≤ 1000) (hL : Ls (fun p => ic (C p)) (pl jx jy) n) (hn : n ≤ w * h) (hn1 : 0 < n) (hP : ∀ k, k < n → gr w h (pl jx jy k) ∧ jx k = zI ((pl jx jy k % 24 : Nat) : Int) ∧ jy k = zI ((pl jx jy k / 24 : Nat) : Int)) (hC : ∀ p, C p → gr w h p ∧ ∀ q, gr w h q → ad p q → (sv w s q = zI (F : Int) ↔ dk q)) (hG : ∀ p, C p → sv w ch p = zI (Cg p)) (hN : F * 7 + 7 ≤ N) :
    ∃ ft', p_Spots_describe (zI w) (zI h) (zI n) (zI F) mk (w * h) s (w * h) ch (w * h) jx (w * h) jy N ft = some ft' ∧ SF w h dk C Cg (fun j => ft' (F * 7 + j)) ∧ ∀ j, j < F * 7 → ft' j = ft j := by
  have hwh := g_wh hw hh
  have hPC : ∀ k, k < n → C (pl jx jy k) := fun k hk => ic_1.mp ((ls_in hL (gr5 hh (hP k hk).1)).mpr ⟨k, hk, rfl⟩)
  have hCP : ∀ p, C p → ∃ k, k < n ∧ pl jx jy k = p := fun p hp => (ls_in hL (gr5 hh (hC p hp).1)).mp (ic_t hp)
  have hk : kc C = n := by
    have := hL.2 (fun _ => 1)
    rw [sm_one] at this
    rw [← this]
    unfold kc
    exact sm_c 576 (fun k _ => by simp)
  have hE := hL.2 Cg
  obtain ⟨v, v1, v2, v3⟩ := d_crack (mk := mk) hw hh hF hL hn hP hC
  have := pu_for (f := p_Spots_describe_L1 (zI w) (zI n) (w * h) ch (w * h) jx (w * h) jy) (σ := Nat × Nat × Nat × Nat) (fun k q => (zI (sm (fun i => Cg (pl jx jy i)) k), zI (q.1 : Int), zI (q.2.1 : Int), zI (q.2.2.1 : Int), zI (q.2.2.2 : Int), zI (k : Int)))
    (fun k q => q.1 ≤ 24 ∧ q.2.1 ≤ 24 ∧ q.2.2.1 ≤ 24 ∧ q.2.2.2 ≤ 24 ∧ (∀ i, i < k → q.1 ≤ pl jx jy i % 24 ∧ q.2.1 ≤ pl jx jy i / 24 ∧ pl jx jy i % 24 ≤ q.2.2.1 ∧ pl jx jy i / 24 ≤ q.2.2.2) ∧ ((k = 0 ∧ q.1 = w ∧ q.2.1 = h ∧ q.2.2.1 = 0 ∧ q.2.2.2 = 0) ∨ ((∃ i, i < k ∧ pl jx jy i % 24 = q.1) ∧ (∃ i, i < k ∧ pl jx jy i / 24 = q.2.1) ∧ (∃ i, i < k ∧ pl jx jy i % 24 = q.2.2.1) ∧ (∃ i, i < k ∧ pl jx jy i / 24 = q.2.2.2))))
    (fun e => ∃ (l t r b : Nat) (x : Int32), e = (zI (sm (fun i => Cg (pl jx jy i)) n), zI (l : Int), zI (t : Int), zI (r : Int), zI (b : Int), x) ∧ (∀ i, i < n → l ≤ pl jx jy i % 24 ∧ t ≤ pl jx jy i / 24 ∧ pl jx jy i % 24 ≤ r ∧ pl jx jy i / 24 ≤ b) ∧ (∃ i, i < n ∧ pl jx jy i % 24 = l) ∧ (∃ i, i < n ∧ pl jx jy i / 24 = t) ∧ (∃ i, i < n ∧ pl jx jy i % 24 = r) ∧ (∃ i, i < n ∧ pl jx jy i / 24 = b)) n (by
    rintro k ⟨l, t, r, b⟩ hk ⟨i1, i2, i3, i4, i5, i6⟩
    dsimp only at i1 i2 i3 i4 i5 i6 ⊢
    refine Or.inl ?_
    unfold p_Spots_describe_L1
    dsimp only
    obtain ⟨g1, g2, g3⟩ := hP k hk
    have g4 := hG _ (hPC k hk)
    have g1' := g1
    unfold gr at g1'
    have hlt := g_lt g1'.1 g1'.2
    unfold sv at g4
    rw [if_neg (by rw [zn_le (by omega) (by omega)]; omega), pu_gt ((zn_in (by omega)).mpr (by omega)), pu_gt ((zn_in (by omega)).mpr (by omega)), zn_cl (k := k) (by omega), g2, g3, z_pl, pu_gt ((zn_in (by omega)).mpr (by omega)), zn_cl (k := pl jx jy k / 24 * w + pl jx jy k % 24) (by omega), g4, zI_s, zI_add, z_mn (by omega) (by omega), z_mn (by omega) (by omega), z_mx (by omega) (by omega), z_mx (by omega) (by omega)]
    refine ⟨(if pl jx jy k % 24 < l then pl jx jy k % 24 else l, if pl jx jy k / 24 < t then pl jx jy k / 24 else t, if r < pl jx jy k % 24 then pl jx jy k % 24 else r, if b < pl jx jy k / 24 then pl jx jy k / 24 else b), rfl, ?_⟩
    dsimp only
    refine ⟨by split <;> omega, by split <;> omega, by split <;> omega, by split <;> omega, fun i hi => ?_, Or.inr ⟨?_, ?_, ?_, ?_⟩⟩
    · by_cases ei : i = k
      · subst ei
        refine ⟨?_, ?_, ?_, ?_⟩ <;> (split <;> omega)
      · have := i5 i (by omega)
        refine ⟨?_, ?_, ?_, ?_⟩ <;> (split <;> omega)
    · refine at_mn (g := fun i => pl jx jy i % 24) ?_
      rcases i6 with ⟨a0, a1, a2, a3, a4⟩ | ⟨a1, a2, a3, a4⟩
      · exact Or.inr (by (try dsimp only); omega)
      · exact Or.inl a1
    · refine at_mn (g := fun i => pl jx jy i / 24) ?_
      rcases i6 with ⟨a0, a1, a2, a3, a4⟩ | ⟨a1, a2, a3, a4⟩
      · exact Or.inr (by (try dsimp only); omega)
      · exact Or.inl a2
    · refine at_mx (g := fun i => pl jx jy i % 24) ?_
      rcases i6 with ⟨a0, a1, a2, a3, a4⟩ | ⟨a1, a2, a3, a4⟩
      · exact Or.inr (by (try dsimp only); omega)
      · exact Or.inl a3
    · refine at_mx (g := fun i => pl jx jy i / 24) ?_
      rcases i6 with ⟨a0, a1, a2, a3, a4⟩ | ⟨a1, a2, a3, a4⟩
      · exact Or.inr (by (try dsimp only); omega)
      · exact Or.inl a4) (by
    rintro ⟨l, t, r, b⟩ ⟨i1, i2, i3, i4, i5, i6⟩
    dsimp only at i1 i2 i3 i4 i5 i6 ⊢
    unfold p_Spots_describe_L1
    dsimp only
    rw [if_pos (by rw [zn_le (by omega) (by omega)]; omega)]
    rcases i6 with ⟨a0, a1, a2, a3, a4⟩ | ⟨a1, a2, a3, a4⟩
    · omega
    · exact ⟨_, rfl, l, t, r, b, _, rfl, i5, a1, a2, a3, a4⟩) (k0 := 0) (s0 := (w, h, 0, 0)) (by omega) ⟨by (try dsimp only); omega, by (try dsimp only); omega, by (try dsimp only); omega, by (try dsimp only); omega, fun i hi => by omega, Or.inl ⟨rfl, rfl, rfl, rfl, rfl⟩⟩
  obtain ⟨e, h1, l, t, r, b, x, rfl, h2, h3, h4, h5, h6⟩ := this
  have h1' : pu_loop (p_Spots_describe_L1 (zI w) (zI n) (w * h) ch (w * h) jx (w * h) jy) (0, zI w, zI h, 0, 0, 0) = some (zI (sm (fun i => Cg (pl jx jy i)) n), zI (l : Int), zI (t : Int), zI (r : Int), zI (b : Int), x) := h1
  have k0 : zI (F : Int) * 7 + 0 = zI ((F * 7 + 0 : Nat) : Int) := by rw [zl7, zl0, zI_mul, zI_add]; congr 1
  have k1 : zI (F : Int) * 7 + 1 = zI ((F * 7 + 1 : Nat) : Int) := by rw [zl7, zl1, zI_mul, zI_add]; congr 1
  have k2 : zI (F : Int) * 7 + 2 = zI ((F * 7 + 2 : Nat) : Int) := by rw [zl7, zl2, zI_mul, zI_add]; congr 1
  have k3 : zI (F : Int) * 7 + 3 = zI ((F * 7 + 3 : Nat) : Int) := by rw [zl7, zl3, zI_mul, zI_add]; congr 1
  have k4 : zI (F : Int) * 7 + 4 = zI ((F * 7 + 4 : Nat) : Int) := by rw [zl7, zl4, zI_mul, zI_add]; congr 1
  have k5 : zI (F : Int) * 7 + 5 = zI ((F * 7 + 5 : Nat) : Int) := by rw [zl7, show (5 : Int32) = zI 5 by decide, zI_mul, zI_add]; congr 1
  have k6 : zI (F : Int) * 7 + 6 = zI ((F * 7 + 6 : Nat) : Int) := by rw [zl7, zl6, zI_mul, zI_add]; congr 1
  unfold p_Spots_describe
  rw [h1']
  simp only [Option.bind_some]
  simp only [k0, k1, k2, k3, k4, k5, k6, v1, Option.bind_some]
  simp only [pu_gt ((zn_in (show F * 7 + 0 ≤ 1000000 by omega)).mpr (show F * 7 + 0 < N by omega)), pu_gt ((zn_in (show F * 7 + 1 ≤ 1000000 by omega)).mpr (show F * 7 + 1 < N by omega)), pu_gt ((zn_in (show F * 7 + 2 ≤ 1000000 by omega)).mpr (show F * 7 + 2 < N by omega)), pu_gt ((zn_in (show F * 7 + 3 ≤ 1000000 by omega)).mpr (show F * 7 + 3 < N by omega)), pu_gt ((zn_in (show F * 7 + 4 ≤ 1000000 by omega)).mpr (show F * 7 + 4 < N by omega)), pu_gt ((zn_in (show F * 7 + 5 ≤ 1000000 by omega)).mpr (show F * 7 + 5 < N by omega)), pu_gt ((zn_in (show F * 7 + 6 ≤ 1000000 by omega)).mpr (show F * 7 + 6 < N by omega))]
  simp only [zn_cl (show F * 7 + 0 ≤ 1000000 by omega), zn_cl (show F * 7 + 1 ≤ 1000000 by omega), zn_cl (show F * 7 + 2 ≤ 1000000 by omega), zn_cl (show F * 7 + 3 ≤ 1000000 by omega), zn_cl (show F * 7 + 4 ≤ 1000000 by omega), zn_cl (show F * 7 + 5 ≤ 1000000 by omega), zn_cl (show F * 7 + 6 ≤ 1000000 by omega)]
  have L1 : Lst C (fun k => k % 24) (zI (l : Int)) := ⟨l, rfl, fun p hp => by obtain ⟨k, hk, rfl⟩ := hCP p hp; exact (h2 k hk).1, by obtain ⟨k, hk, e⟩ := h3; exact ⟨_, hPC k hk, e⟩⟩
  have L2 : Lst C (fun k => k / 24) (zI (t : Int)) := ⟨t, rfl, fun p hp => by obtain ⟨k, hk, rfl⟩ := hCP p hp; exact (h2 k hk).2.1, by obtain ⟨k, hk, e⟩ := h4; exact ⟨_, hPC k hk, e⟩⟩
  have L3 : Gst C (fun k => k % 24) (zI (r : Int)) := ⟨r, rfl, fun p hp => by obtain ⟨k, hk, rfl⟩ := hCP p hp; exact (h2 k hk).2.2.1, by obtain ⟨k, hk, e⟩ := h5; exact ⟨_, hPC k hk, e⟩⟩
  have L4 : Gst C (fun k => k / 24) (zI (b : Int)) := ⟨b, rfl, fun p hp => by obtain ⟨k, hk, rfl⟩ := hCP p hp; exact (h2 k hk).2.2.2, by obtain ⟨k, hk, e⟩ := h6; exact ⟨_, hPC k hk, e⟩⟩
  by_cases hc : Crk w h dk C
  · rw [v2 hc, if_neg one0]
    obtain ⟨g, e, q0, q1, q2, q3, q4, q5, q6, q7⟩ := up7 ft (F * 7) (zI n) (zI (sm (fun i => Cg (pl jx jy i)) n)) (zI l) (zI t) (zI r) (zI b) (zI (n : Int) - 1)
    refine ⟨g, congrArg some e, ⟨?_, ?_, ?_, ?_, ?_, ?_, fun _ => ?_, fun q => absurd hc q⟩, q7⟩
    · rw [hk]; exact q0
    · rw [hE]; exact q1
    · (try dsimp only); rw [q2]; exact L1
    · (try dsimp only); rw [q3]; exact L2
    · (try dsimp only); rw [q4]; exact L3
    · (try dsimp only); rw [q5]; exact L4
    · (try dsimp only); rw [q6, hk, zl1, zI_sub]
  · rw [v3 hc, if_pos rfl]
    obtain ⟨g, e, q0, q1, q2, q3, q4, q5, q6, q7⟩ := up7 ft (F * 7) (zI n) (zI (sm (fun i => Cg (pl jx jy i)) n)) (zI l) (zI t) (zI r) (zI b) (-1)
    refine ⟨g, congrArg some e, ⟨?_, ?_, ?_, ?_, ?_, ?_, fun q => absurd q hc, fun _ => ?_⟩, q7⟩
    · rw [hk]; exact q0
    · rw [hE]; exact q1
    · (try dsimp only); rw [q2]; exact L1
    · (try dsimp only); rw [q3]; exact L2
    · (try dsimp only); rw [q4]; exact L3
    · (try dsimp only); rw [q5]; exact L4
    · exact q6
end AE
