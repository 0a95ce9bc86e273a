/-! PURE SIDE: spots, the reference's way: labels that sink to the least -/
def gr (w h p : Nat) : Prop := p % 24 < w ∧ p / 24 < h
def ad (p q : Nat) : Prop := (q / 24 = p / 24 ∧ (q % 24 = p % 24 + 1 ∨ q % 24 + 1 = p % 24)) ∨ (q % 24 = p % 24 ∧ (q / 24 = p / 24 + 1 ∨ q / 24 + 1 = p / 24))
theorem ad_sym {p q : Nat} (h : ad p q) : ad q p := by unfold ad at h ⊢; omega
/-- together: whatever is alike on neighbours is alike on both -/
def Cn (dk : Nat → Prop) (a b : Nat) : Prop := ∀ f : Nat → Nat, (∀ p q, dk p → dk q → ad p q → f p = f q) → f a = f b
theorem Cn_r {dk : Nat → Prop} (a : Nat) : Cn dk a a := fun _ _ => rfl
theorem Cn_t {dk : Nat → Prop} {a b c : Nat} (h1 : Cn dk a b) (h2 : Cn dk b c) : Cn dk a c := fun f hf => (h1 f hf).trans (h2 f hf)
theorem Cn_s {dk : Nat → Prop} {a b : Nat} (h1 : Cn dk a b) : Cn dk b a := fun f hf => (h1 f hf).symm
theorem Cn_a {dk : Nat → Prop} {a b : Nat} (ha : dk a) (hb : dk b) (h : ad a b) : Cn dk a b := fun f hf => hf a b ha hb h
def dx (n : Nat) : Int := if n = 1 then 1 else if n = 3 then -1 else 0
def dy (n : Nat) : Int := if n = 0 then -1 else if n = 2 then 1 else 0
def nbr (w h k n q : Nat) : Prop := gr w h q ∧ ((q % 24 : Nat) : Int) = ((k % 24 : Nat) : Int) + dx n ∧ ((q / 24 : Nat) : Int) = ((k / 24 : Nat) : Int) + dy n
theorem n4 {n : Nat} (hn : n < 4) : n = 0 ∨ n = 1 ∨ n = 2 ∨ n = 3 := by omega
theorem ad_nbr {w h k q : Nat} (hq : gr w h q) : ad k q ↔ ∃ n, n < 4 ∧ nbr w h k n q := by
  constructor
  · intro h
    unfold ad at h
    rcases h with ⟨h1, h2 | h2⟩ | ⟨h1, h2 | h2⟩
    · exact ⟨1, by omega, hq, by unfold dx; simp; omega, by unfold dy; simp; omega⟩
    · exact ⟨3, by omega, hq, by unfold dx; simp; omega, by unfold dy; simp; omega⟩
    · exact ⟨2, by omega, hq, by unfold dx; simp; omega, by unfold dy; simp; omega⟩
    · exact ⟨0, by omega, hq, by unfold dx; simp; omega, by unfold dy; simp; omega⟩
  · rintro ⟨n, hn, -, h1, h2⟩
    unfold ad
    rcases n4 hn with rfl | rfl | rfl | rfl <;> (unfold dx at h1; unfold dy at h2; simp at h1 h2; omega)
theorem nbr_u {w h k n q q' : Nat} (h1 : nbr w h k n q) (h2 : nbr w h k n q') : q = q' := by
  unfold nbr at h1 h2
  omega
theorem nbr_or (w h k n : Nat) : (∃ q, nbr w h k n q) ∨ ∀ q, ¬ nbr w h k n q := by
  by_cases e : ∃ q, nbr w h k n q
  · exact Or.inl e
  · exact Or.inr (fun q hq => e ⟨q, hq⟩)
section AN
variable {th re wi fl ac dn ma sp da : Int32} {su my ab be : Int64} {w h : Nat}
theorem q_neigh (hw : w ≤ 24) (hh : h ≤ 24) {k n : Nat} (hk : k < 576) (hn : n < 4) :
    (∀ q, nbr w h k n q → p_Mod_neighbour (zI k) (zI n) th (zI w) (zI h) re wi fl ac dn su my ab be ma sp da = some (zI q)) ∧ ((∀ q, ¬ nbr w h k n q) → p_Mod_neighbour (zI k) (zI n) th (zI w) (zI h) re wi fl ac dn su my ab be ma sp da = some (-1)) := by
  have hx : (if zI (n : Int) = 1 then some (1 : Int32) else if zI (n : Int) = 3 then some (-1) else some 0) = some (zI (dx n)) := by
    rcases n4 hn with rfl | rfl | rfl | rfl <;> decide
  have hy : (if zI (n : Int) = 0 then some (-1 : Int32) else if zI (n : Int) = 2 then some 1 else some 0) = some (zI (dy n)) := by
    rcases n4 hn with rfl | rfl | rfl | rfl <;> decide
  have bx : -1 ≤ dx n ∧ dx n ≤ 1 := by unfold dx; omega
  have by' : -1 ≤ dy n ∧ dy n ≤ 1 := by unfold dy; omega
  obtain ⟨t, f⟩ := @q_isCell th re wi fl ac dn ma sp da su my ab be w h hw hh (((k : Int) % 24) + dx n) (((k : Int) / 24) + dy n) (by omega) (by omega) (by omega) (by omega)
  unfold p_Mod_neighbour
  rw [hx, hy]
  simp only [Option.bind_some]
  rw [pu_gt (by decide), pu_gt (by decide), zl24, zI_rem (by omega) (by omega) (by omega) (by omega), zI_div (by omega) (by omega) (by omega) (by omega), zI_add, zI_add, zI_mul, zI_add]
  constructor
  · rintro q ⟨hq, h1, h2⟩
    unfold gr at hq
    have hi : inG w h (((k : Int) % 24) + dx n) (((k : Int) / 24) + dy n) := by unfold inG; omega
    rw [t hi]
    simp only [Option.bind_some, one0, if_false]
    congr 2
    omega
  · intro hno
    have hi : ¬ inG w h (((k : Int) % 24) + dx n) (((k : Int) / 24) + dy n) := by
      intro hi
      unfold inG at hi
      apply hno (24 * (((k : Int) / 24) + dy n).toNat + (((k : Int) % 24) + dx n).toNat)
      unfold nbr gr
      omega
    rw [f hi]
    rfl
/-- the labels: a label is a cell of the same spot, none above its own -/
def MI (dk : Nat → Prop) (f : Nat → Int32) : Prop := ∀ k, k < 576 → (dk k → ∃ l : Nat, f k = zI l ∧ dk l ∧ l ≤ k ∧ Cn dk l k) ∧ (¬ dk k → f k = -1)
theorem q_lowest (hw : w ≤ 24) (hh : h ≤ 24) {dk : Nat → Prop} (hd : ∀ p, dk p → p < 576 ∧ gr w h p) {f : Nat → Int32} (hM : MI dk f) {k : Nat} (hk : dk k) {l : Nat} (hl : f k = zI l) (hl5 : l < 576) :
    ∃ v : Nat, p_Mod_lowest (zI k) th (zI w) (zI h) re wi fl ac dn su my ab be ma sp da 576 f = some (zI v) ∧ v ≤ l ∧ (v = l ∨ ∃ z, dk z ∧ ad k z ∧ f z = zI v) ∧ ∀ z l' : Nat, dk z → ad k z → f z = zI (l' : Int) → l' < 576 → v ≤ l' := by
  have hk5 := (hd k hk).1
  have := pu_for (f := p_Mod_lowest_L1 (zI k) th (zI w) (zI h) re wi fl ac dn su my ab be ma sp da 576 f) (σ := Nat) (fun n v => (zI (v : Int), zI (n : Int))) (fun n v => v ≤ l ∧ (v = l ∨ ∃ z, dk z ∧ ad k z ∧ f z = zI v) ∧ ∀ i z l' : Nat, i < n → nbr w h k i z → dk z → f z = zI (l' : Int) → l' < 576 → v ≤ l')
    (fun e => ∃ v : Nat, e.1 = zI (v : Int) ∧ v ≤ l ∧ (v = l ∨ ∃ z, dk z ∧ ad k z ∧ f z = zI v) ∧ ∀ i z l' : Nat, i < 4 → nbr w h k i z → dk z → f z = zI (l' : Int) → l' < 576 → v ≤ l') 4 (by
    rintro n v hn ⟨i1, i2, i3⟩
    refine Or.inl ?_
    unfold p_Mod_lowest_L1
    dsimp only
    obtain ⟨t, f'⟩ := @q_neigh th re wi fl ac dn ma sp da su my ab be w h hw hh k n hk5 hn
    rw [if_neg (by rw [show (4 : Int32) = zI ((4 : Nat) : Int) by decide, zn_le (by omega) (by omega)]; omega), zI_s]
    rcases nbr_or w h k n with ⟨q, hq⟩ | hno
    · rw [t q hq]
      have hq5 : q < 576 := by have := hq.1; unfold gr at this; omega
      simp only [Option.bind_some]
      rw [if_neg (by rw [zlm1, zI_eq (by omega) (by omega) (by omega) (by omega)]; omega), pu_gt ((zn_in (by omega)).mpr hq5), pu_gt ((zn_in (by omega)).mpr hq5), pu_gt ((zn_in (by omega)).mpr hq5), zn_cl (by omega)]
      by_cases hdq : dk q
      · obtain ⟨lq, e1, e2, e3, e4⟩ := (hM q hq5).1 hdq
        rw [e1, if_neg (by rw [zlm1, zI_eq (by omega) (by omega) (by omega) (by omega)]; omega)]
        simp only [zn_le (show v ≤ 1000000 by omega) (show lq ≤ 1000000 by omega)]
        by_cases hv : v ≤ lq
        · rw [if_pos hv]
          refine ⟨v, rfl, i1, i2, fun i z l' hi hz hdz e hl' => ?_⟩
          by_cases ei : i = n
          · subst ei
            have := nbr_u hz hq
            subst this
            rw [e1, zn_eq (by omega) (by omega)] at e
            omega
          · exact i3 i z l' (by omega) hz hdz e hl'
        · rw [if_neg hv]
          refine ⟨lq, rfl, by omega, Or.inr ⟨q, hdq, (ad_nbr hq.1).mpr ⟨n, hn, hq⟩, e1⟩, fun i z l' hi hz hdz e hl' => ?_⟩
          by_cases ei : i = n
          · subst ei
            have := nbr_u hz hq
            subst this
            rw [e1, zn_eq (by omega) (by omega)] at e
            omega
          · have := i3 i z l' (by omega) hz hdz e hl'
            omega
      · rw [(hM q hq5).2 hdq, if_pos rfl]
        refine ⟨v, rfl, i1, i2, fun i z l' hi hz hdz e hl' => ?_⟩
        by_cases ei : i = n
        · subst ei
          have := nbr_u hz hq
          subst this
          exact absurd hdz hdq
        · exact i3 i z l' (by omega) hz hdz e hl'
    · rw [f' hno]
      refine ⟨v, rfl, i1, i2, fun i z l' hi hz hdz e hl' => ?_⟩
      by_cases ei : i = n
      · subst ei
        exact absurd hz (hno z)
      · exact i3 i z l' (by omega) hz hdz e hl') (by
    rintro v ⟨i1, i2, i3⟩
    unfold p_Mod_lowest_L1
    dsimp only
    rw [if_pos (by decide)]
    exact ⟨_, rfl, v, rfl, i1, i2, i3⟩) (k0 := 0) (s0 := l) (by omega) ⟨by omega, Or.inl rfl, fun i z l' hi => by omega⟩
  obtain ⟨⟨e1, e2⟩, h1, v, rfl, h2, h3, h4⟩ := this
  refine ⟨v, ?_, h2, h3, fun z l' hz haz e hl' => ?_⟩
  · unfold p_Mod_lowest
    rw [pu_gt ((zn_in (by omega)).mpr hk5), zn_cl (by omega), hl, zl0n, h1]
    rfl
  · obtain ⟨i, hi, hn⟩ := (ad_nbr (hd z hz).2).mp haz
    exact h4 i z l' hi hn hz e hl'
/-- nothing sinks any more -/
def Fx (dk : Nat → Prop) (f : Nat → Int32) (K : Nat) : Prop := ∀ p q l l' : Nat, p < K → dk p → dk q → ad p q → f p = zI (l : Int) → f q = zI (l' : Int) → l < 576 → l' < 576 → l ≤ l'
def fs (f : Nat → Int32) : Int := sm (fun k => (f k).toInt + 1) 576
theorem fs_nn {dk : Nat → Prop} {f : Nat → Int32} (hM : MI dk f) : 0 ≤ fs f := by
  refine (sm_le (B := 576) 576 (fun k hk => ?_)).1
  by_cases hd : dk k
  · obtain ⟨l, e1, e2, e3, e4⟩ := (hM k hk).1 hd
    rw [e1, zI_t (by omega) (by omega)]
    omega
  · rw [(hM k hk).2 hd]
    decide
theorem l_sweep (hw : w ≤ 24) (hh : h ≤ 24) {dk : Nat → Prop} (hd : ∀ p, dk p → p < 576 ∧ gr w h p) {f : Nat → Int32} (hM : MI dk f) :
    ∃ (v x : Int32) (f' : Nat → Int32), pu_loop (p_Mod_run_L22 (zI w) (zI h) re wi fl ac dn su my sp da 576 ab be ma) (0, 0, f) = some (v, x, f') ∧ MI dk f' ∧ ((v = 0 ∧ f' = f ∧ Fx dk f 576) ∨ (v = 1 ∧ fs f' < fs f)) := by
  have := pu_for (f := p_Mod_run_L22 (zI w) (zI h) re wi fl ac dn su my sp da 576 ab be ma) (σ := Int32 × (Nat → Int32)) (fun k s => (s.1, zI (k : Int), s.2)) (fun k s => MI dk s.2 ∧ ((s.1 = 0 ∧ s.2 = f ∧ Fx dk f k) ∨ (s.1 = 1 ∧ fs s.2 < fs f)))
    (fun e => ∃ (v x : Int32) (f' : Nat → Int32), e = (v, x, f') ∧ MI dk f' ∧ ((v = 0 ∧ f' = f ∧ Fx dk f 576) ∨ (v = 1 ∧ fs f' < fs f))) 576 (by
    rintro k ⟨v, g⟩ hk ⟨hM, hI⟩
    dsimp only at hM hI ⊢
    refine Or.inl ?_
    unfold p_Mod_run_L22
    dsimp only
    rw [if_neg (by rw [zl576, zn_le (by omega) (by omega)]; omega), pu_gt ((zn_in (by omega)).mpr hk), zn_cl (by omega), zI_s]
    by_cases hdk : dk k
    · obtain ⟨l, e1, e2, e3, e4⟩ := (hM k hk).1 hdk
      rw [e1, if_neg (by rw [zlm1, zI_eq (by omega) (by omega) (by omega) (by omega)]; omega)]
      obtain ⟨lv, k1, k2, k3, k4⟩ := @q_lowest 0 re wi fl ac dn ma sp da su my ab be w h hw hh dk hd g hM k hdk l e1 (by omega)
      rw [k1]
      simp only [Option.bind_some, pu_gt ((zn_in (show k ≤ 1000000 by omega)).mpr hk), zn_le (show l ≤ 1000000 by omega) (show lv ≤ 1000000 by omega)]
      by_cases hl : l ≤ lv
      · rw [if_pos hl]
        refine ⟨(v, g), rfl, hM, ?_⟩
        rcases hI with ⟨i1, i2, i3⟩ | hI
        · refine Or.inl ⟨i1, i2, fun p q a b hp hdp hdq hpq ea eb ha hb => ?_⟩
          by_cases ep : p = k
          · subst ep
            rw [← i2] at ea eb
            rw [e1, zn_eq (by omega) (by omega)] at ea
            have := k4 q b hdq hpq eb hb
            omega
          · exact i3 p q a b (by omega) hdp hdq hpq ea eb ha hb
        · exact Or.inr hI
      · rw [if_neg hl]
        refine ⟨(1, upd g k (zI lv)), rfl, ?_, Or.inr ⟨rfl, ?_⟩⟩
        · intro p hp
          dsimp only
          by_cases ep : p = k
          · subst ep
            rw [pk_us]
            refine ⟨fun _ => ?_, fun q => absurd hdk q⟩
            rcases k3 with rfl | ⟨z, hz, hkz, ez⟩
            · omega
            · obtain ⟨lz, z1, z2, z3, z4⟩ := (hM z (hd z hz).1).1 hz
              have hz5 := (hd z hz).1
              rw [z1, zn_eq (by omega) (by omega)] at ez
              subst ez
              exact ⟨lz, rfl, z2, by omega, Cn_t z4 (Cn_a hz hdk (ad_sym hkz))⟩
          · rw [pk_un ep]
            exact hM p hp
        · have e5 : fs (upd g k (zI lv)) = fs g + (lv - l) := by
            unfold fs
            rw [sm_up (g := fun k => (g k).toInt + 1) (g' := fun j => (upd g k (zI lv) j).toInt + 1) (p := k) (fun j hj => by rw [pk_un hj]) 576, if_pos hk, pk_us, e1, zI_t (by omega) (by omega), zI_t (by omega) (by omega)]
            omega
          dsimp only
          rcases hI with ⟨i1, i2, i3⟩ | ⟨i1, i2⟩
          · subst i2
            omega
          · omega
    · rw [(hM k hk).2 hdk, if_pos rfl]
      refine ⟨(v, g), rfl, hM, ?_⟩
      rcases hI with ⟨i1, i2, i3⟩ | hI
      · refine Or.inl ⟨i1, i2, fun p q a b hp hdp hdq hpq ea eb ha hb => ?_⟩
        by_cases ep : p = k
        · subst ep
          exact absurd hdp hdk
        · exact i3 p q a b (by omega) hdp hdq hpq ea eb ha hb
      · exact Or.inr hI) (by
    rintro ⟨v, g⟩ ⟨hM, hI⟩
    dsimp only at hM hI ⊢
    unfold p_Mod_run_L22
    dsimp only
    rw [if_pos (by decide)]
    exact ⟨_, rfl, v, _, g, rfl, hM, hI⟩) (k0 := 0) (s0 := (0, f)) (by omega) ⟨hM, Or.inl ⟨rfl, rfl, fun p q a b hp => by omega⟩⟩
  obtain ⟨e, h1, v, x, f', rfl, h2, h3⟩ := this
  exact ⟨v, x, f', h1, h2, h3⟩
/-- the reference's labels at the end -/
def MS (dk : Nat → Prop) (f : Nat → Int32) : Prop := MI dk f ∧ ∀ p q, dk p → dk q → ad p q → f p = f q
theorem l_all (hw : w ≤ 24) (hh : h ≤ 24) {dk : Nat → Prop} (hd : ∀ p, dk p → p < 576 ∧ gr w h p) {f : Nat → Int32} (hM : MI dk f) :
    ∃ (x : Int32) (f' : Nat → Int32), pu_loop (p_Mod_run_L19 (zI w) (zI h) re wi fl ac dn su my sp da 576 ab be ma) (1, f) = some (x, f') ∧ MS dk f' := by
  obtain ⟨e, h1, x, f', rfl, h2⟩ := pu_rule (f := p_Mod_run_L19 (zI w) (zI h) re wi fl ac dn su my sp da 576 ab be ma) (fun s => MI dk s.2 ∧ (s.1 = 0 → Fx dk s.2 576)) (fun e => ∃ x f', e = (x, f') ∧ MS dk f') (fun s => (fs s.2).toNat + (if s.1 = 0 then 0 else 1)) (by
    rintro ⟨v, g⟩ ⟨hM, hF⟩
    dsimp only at hM hF ⊢
    unfold p_Mod_run_L19
    dsimp only
    by_cases hv : v = 0
    · rw [if_pos hv]
      refine Or.inr ⟨_, rfl, v, g, rfl, hM, fun p q hp hq hpq => ?_⟩
      obtain ⟨lp, p1, p2, p3, p4⟩ := (hM p (hd p hp).1).1 hp
      obtain ⟨lq, q1, q2, q3, q4⟩ := (hM q (hd q hq).1).1 hq
      have hp5 := (hd p hp).1
      have hq5 := (hd q hq).1
      have a1 := hF hv p q lp lq (hd p hp).1 hp hq hpq p1 q1 (by omega) (by omega)
      have a2 := hF hv q p lq lp (hd q hq).1 hq hp (ad_sym hpq) q1 p1 (by omega) (by omega)
      rw [p1, q1]
      congr 1
      omega
    · rw [if_neg hv]
      obtain ⟨v', x, g', k1, k2, k3⟩ := @l_sweep re wi fl ac dn ma sp da su my ab be w h hw hh dk hd g hM
      rw [k1]
      refine Or.inl ⟨(v', g'), rfl, ⟨k2, fun q => ?_⟩, ?_⟩
      · rcases k3 with ⟨rfl, rfl, k3⟩ | ⟨rfl, k3⟩
        · exact k3
        · exact absurd q (show ¬ (1 : Int32) = 0 by decide)
      · dsimp only
        have n1 := fs_nn hM
        have n2 := fs_nn k2
        rcases k3 with ⟨rfl, rfl, k3⟩ | ⟨rfl, k3⟩
        · simp [hv]
        · rw [if_neg (by decide), if_neg hv]
          omega) (1, f) ⟨hM, fun q => absurd q (show ¬ (1 : Int32) = 0 by decide)⟩
  exact ⟨x, f', h1, h2⟩
end AN
