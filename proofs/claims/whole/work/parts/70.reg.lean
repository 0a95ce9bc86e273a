/-! PURE SIDE: register -/
noncomputable def lkS (w h : Nat) (F K : Nat → Int) (a d : Int) (p : Nat) : Int := @ite _ (inG w h ((p : Int) % 24) ((p : Int) / 24) ∧ inG w h ((p : Int) % 24 + a) ((p : Int) / 24 + d)) (Classical.propDecidable _) (dst (F p) (K (onP a d p))) 0
noncomputable def lkM (w h : Nat) (a d : Int) (p : Nat) : Int := @ite _ (inG w h ((p : Int) % 24) ((p : Int) / 24) ∧ inG w h ((p : Int) % 24 + a) ((p : Int) / 24 + d)) (Classical.propDecidable _) 1 0
noncomputable def tS (w h : Nat) (F K : Nat → Int) (a d : Int) : Int := sm (lkS w h F K a d) 576
noncomputable def tM (w h : Nat) (a d : Int) : Int := sm (lkM w h a d) 576
section AR
variable {th re wi fl ac dn ma sp da : Int32} {su my ab be : Int64} {w h : Nat}
theorem lkSM_in {F K : Nat → Int} (hw : w ≤ 24) (hh : h ≤ 24) (hF : ∀ x y : Nat, x < w → y < h → 0 ≤ F (24 * y + x) ∧ F (24 * y + x) ≤ 255) (hK : ∀ x y : Nat, x < w → y < h → 0 ≤ K (24 * y + x) ∧ K (24 * y + x) ≤ 255) {a d : Int} {k : Nat} (hk : k < 576) :
    (0 ≤ lkS w h F K a d k ∧ lkS w h F K a d k ≤ 255) ∧ (0 ≤ lkM w h a d k ∧ lkM w h a d k ≤ 1) := by
  unfold lkS lkM
  by_cases hi : inG w h ((k : Int) % 24) ((k : Int) / 24) ∧ inG w h ((k : Int) % 24 + a) ((k : Int) / 24 + d)
  · rw [if_pos hi, if_pos hi]
    obtain ⟨x, y, q1, q2, hx, hy⟩ := g_xy hi.1
    obtain ⟨x', y', q3, q4, hx', hy'⟩ := g_xy hi.2
    have e1 : k = 24 * y + x := by omega
    have eo : onP a d k = 24 * y' + x' := by unfold onP; omega
    rw [eo, e1]
    exact ⟨dst_in (hF x y hx hy).1 (hF x y hx hy).2 (hK x' y' hx' hy').1 (hK x' y' hx' hy').2, by omega, by omega⟩
  · rw [if_neg hi, if_neg hi]; omega
theorem tSM_in {F K : Nat → Int} (w4 : 4 ≤ w) (h4 : 4 ≤ h) (hw : w ≤ 24) (hh : h ≤ 24) (hF : ∀ x y : Nat, x < w → y < h → 0 ≤ F (24 * y + x) ∧ F (24 * y + x) ≤ 255) (hK : ∀ x y : Nat, x < w → y < h → 0 ≤ K (24 * y + x) ∧ K (24 * y + x) ≤ 255) {a d : Int} (a1 : -3 ≤ a) (a2 : a ≤ 3) (d1 : -3 ≤ d) (d2 : d ≤ 3) :
    (0 ≤ tS w h F K a d ∧ tS w h F K a d ≤ 146880) ∧ (1 ≤ tM w h a d ∧ tM w h a d ≤ 576) := by
  have h1 := sm_le (B := 255) 576 (fun k hk => (lkSM_in (a := a) (d := d) hw hh hF hK hk).1)
  have h2 := sm_le (B := 1) 576 (fun k hk => (lkSM_in (a := a) (d := d) hw hh hF hK hk).2)
  have h3 : lkM w h a d (24 * (-d).toNat + (-a).toNat) ≤ sm (lkM w h a d) 576 := sm_ge 576 (fun k hk => (lkSM_in (a := a) (d := d) hw hh hF hK hk).2.1) _ (by omega)
  have h4 : lkM w h a d (24 * (-d).toNat + (-a).toNat) = 1 := by
    unfold lkM
    rw [if_pos]
    unfold inG
    omega
  unfold tS tM
  omega
theorem cmp_cls (hw : w ≤ 24) (hh : h ≤ 24) {xf xl : Nat → Int32} {F K : Nat → Int} {a d : Int} (a1 : -3 ≤ a) (a2 : a ≤ 3) (d1 : -3 ≤ d) (d2 : d ≤ 3)
    (hF : ∀ x y : Nat, x < w → y < h → 0 ≤ F (24 * y + x) ∧ F (24 * y + x) ≤ 255 ∧ xf (y * w + x) = zI (F (24 * y + x))) (hK : ∀ x y : Nat, x < w → y < h → 0 ≤ K (24 * y + x) ∧ K (24 * y + x) ≤ 255 ∧ xl (y * w + x) = zI (K (24 * y + x))) :
    p_Pic_compareAt (zI w) (zI h) (w * h) xf (w * h) xl (zI a) (zI d) 0 0 = some (zI (tS w h F K a d), zI (tM w h a d)) := by
  have hwh := g_wh hw hh
  have eS : tS w h F K a d = sm (fun y => sm (fun x => lkS w h F K a d (24 * y + x)) w) h := sm_grid hw hh (fun k hk hn => by unfold lkS; rw [if_neg (fun q => hn q.1)])
  have eM : tM w h a d = sm (fun y => sm (fun x => lkM w h a d (24 * y + x)) w) h := sm_grid hw hh (fun k hk hn => by unfold lkM; rw [if_neg (fun q => hn q.1)])
  have outer := pu_fun (f := p_Pic_compareAt_L1 (zI w) (zI h) (w * h) xf (w * h) xl (zI a) (zI d)) (σ := Unit) (fun y _ => (zI (y : Int), zI (sm (fun y => sm (fun x => lkS w h F K a d (24 * y + x)) w) y), zI (sm (fun y => sm (fun x => lkM w h a d (24 * y + x)) w) y))) (fun _ => ()) h (fun y hy => by
    unfold p_Pic_compareAt_L1
    dsimp only
    rw [if_neg (by rw [zn_le (by omega) (by omega)]; omega)]
    generalize hS : sm (fun y => sm (fun x => lkS w h F K a d (24 * y + x)) w) y = S
    generalize hT : sm (fun y => sm (fun x => lkM w h a d (24 * y + x)) w) y = T
    have inner := pu_fun (f := p_Pic_compareAt_L5 (zI w) (zI h) (w * h) xf (w * h) xl (zI a) (zI d) (zI y)) (σ := Unit) (fun x _ => (zI (x : Int), zI (S + sm (fun x => lkS w h F K a d (24 * y + x)) x), zI (T + sm (fun x => lkM w h a d (24 * y + x)) x))) (fun _ => ()) w (fun x hx => by
      unfold p_Pic_compareAt_L5
      dsimp only
      rw [if_neg (by rw [zn_le (by omega) (by omega)]; omega), zI_add, zI_add, zI_s]
      obtain ⟨t, f⟩ := q_hasCell hw hh (a := (x : Int) + a) (b := (y : Int) + d) (by omega) (by omega) (by omega) (by omega)
      obtain ⟨m1, m2⟩ := pl_mod (x := x) (y := y) (by omega)
      show _ = some (Sum.inl (_, zI (S + (sm _ x + lkS w h F K a d (24 * y + x))), zI (T + (sm _ x + lkM w h a d (24 * y + x)))))
      by_cases hi : inG w h ((x : Int) + a) ((y : Int) + d)
      · rw [t hi]
        obtain ⟨x', y', q1, q2, hx', hy'⟩ := g_xy hi
        have eo : onP a d (24 * y + x) = 24 * y' + x' := by unfold onP; omega
        have hb : inG w h (((24 * y + x : Nat) : Int) % 24) (((24 * y + x : Nat) : Int) / 24) ∧ inG w h (((24 * y + x : Nat) : Int) % 24 + a) (((24 * y + x : Nat) : Int) / 24 + d) := by rw [m1, m2]; exact ⟨by unfold inG; omega, hi⟩
        have vA : lkS w h F K a d (24 * y + x) = dst (F (24 * y + x)) (K (24 * y' + x')) := by unfold lkS; rw [if_pos hb, eo]
        have vB : lkM w h a d (24 * y + x) = 1 := by unfold lkM; rw [if_pos hb]
        have l1 := g_lt hx hy
        have l2 := g_lt hx' hy'
        obtain ⟨f1, f2, f3⟩ := hF x y hx hy
        obtain ⟨k1, k2, k3⟩ := hK x' y' hx' hy'
        unfold p_Pic_placeOf p_Shift_add
        simp only [Option.bind_some, one0, if_false, q1, q2, z_pl]
        rw [pu_gt ((zn_in (by omega)).mpr l1), pu_gt ((zn_in (by omega)).mpr l2), zn_cl (k := y * w + x) (by omega), zn_cl (k := y' * w + x') (by omega), f3, k3, q_dabs f1 f2 k1 k2, zI_add, zl1, zI_add, vA, vB, Int.add_assoc, Int.add_assoc]
      · rw [f hi]
        have hb : ¬ (inG w h (((24 * y + x : Nat) : Int) % 24) (((24 * y + x : Nat) : Int) / 24) ∧ inG w h (((24 * y + x : Nat) : Int) % 24 + a) (((24 * y + x : Nat) : Int) / 24 + d)) := by rw [m1, m2]; exact fun q => hi q.2
        have vA : lkS w h F K a d (24 * y + x) = 0 := by unfold lkS; rw [if_neg hb]
        have vB : lkM w h a d (24 * y + x) = 0 := by unfold lkM; rw [if_neg hb]
        rw [vA, vB, Int.add_zero, Int.add_zero]
        rfl) (e := (zI w, zI (S + sm (fun x => lkS w h F K a d (24 * y + x)) w), zI (T + sm (fun x => lkM w h a d (24 * y + x)) w))) (by
      unfold p_Pic_compareAt_L5
      dsimp only
      rw [if_pos (by rw [zn_le (by omega) (by omega)]; omega)])
    have inner' : pu_loop (p_Pic_compareAt_L5 (zI w) (zI h) (w * h) xf (w * h) xl (zI a) (zI d) (zI y)) (0, zI S, zI T) = some (zI w, zI (S + sm (fun x => lkS w h F K a d (24 * y + x)) w), zI (T + sm (fun x => lkM w h a d (24 * y + x)) w)) := by
      rw [← inner]
      show _ = pu_loop _ (zI ((0 : Nat) : Int), zI (S + 0), zI (T + 0))
      rw [Int.add_zero, Int.add_zero, ← zl0n]
    rw [inner']
    simp only [Option.bind_some, zI_s]
    subst hS hT
    rfl) (e := (zI h, zI (tS w h F K a d), zI (tM w h a d))) (by
    unfold p_Pic_compareAt_L1
    dsimp only
    rw [if_pos (by rw [zn_le (by omega) (by omega)]; omega), eS, eM])
  unfold p_Pic_compareAt
  have outer' : pu_loop (p_Pic_compareAt_L1 (zI w) (zI h) (w * h) xf (w * h) xl (zI a) (zI d)) (0, 0, 0) = some (zI h, zI (tS w h F K a d), zI (tM w h a d)) := outer
  rw [outer']
  rfl
theorem cmp_mod (hw : w ≤ 24) (hh : h ≤ 24) {mf ml : Nat → Int32} {F K : Nat → Int} {a d : Int} (a1 : -3 ≤ a) (a2 : a ≤ 3) (d1 : -3 ≤ d) (d2 : d ≤ 3)
    (hF : ∀ x y : Nat, x < w → y < h → 0 ≤ F (24 * y + x) ∧ F (24 * y + x) ≤ 255 ∧ mf (24 * y + x) = zI (F (24 * y + x))) (hK : ∀ x y : Nat, x < w → y < h → 0 ≤ K (24 * y + x) ∧ K (24 * y + x) ≤ 255 ∧ ml (24 * y + x) = zI (K (24 * y + x))) :
    p_Mod_look (zI a) (zI d) th (zI w) (zI h) re wi fl ac dn su my ab be ma sp da 576 mf 576 ml = some (zL (tS w h F K a d), zL (tM w h a d)) := by
  have := pu_fun (f := p_Mod_look_L1 (zI a) (zI d) th (zI w) (zI h) re wi fl ac dn ab be ma sp da 576 mf 576 ml) (σ := Unit) (fun k _ => (zI (k : Int), zL (sm (lkS w h F K a d) k), zL (sm (lkM w h a d) k))) (fun _ => ()) 576 (fun k hk => by
    unfold p_Mod_look_L1
    dsimp only
    rw [if_neg (by rw [zl576, zn_le (by omega) (by omega)]; omega), zI_s]
    show _ = some (Sum.inl (_, zL (sm _ k + lkS w h F K a d k), zL (sm _ k + lkM w h a d k)))
    obtain ⟨t, f⟩ := @q_under th re wi fl ac dn ma sp da (zL (sm (lkS w h F K a d) k)) (zL (sm (lkM w h a d) k)) ab be w h hw hh (k : Int) a d (by omega) (by omega) a1 a2 d1 d2
    by_cases hi : inG w h ((k : Int) % 24) ((k : Int) / 24) ∧ inG w h ((k : Int) % 24 + a) ((k : Int) / 24 + d)
    · rw [t hi]
      obtain ⟨x, y, q1, q2, hx, hy⟩ := g_xy hi.1
      obtain ⟨x', y', q3, q4, hx', hy'⟩ := g_xy hi.2
      have e1 : k = 24 * y + x := by omega
      subst e1
      have eo : onP a d (24 * y + x) = 24 * y' + x' := by unfold onP; omega
      have vA : lkS w h F K a d (24 * y + x) = dst (F (24 * y + x)) (K (24 * y' + x')) := by unfold lkS; rw [if_pos hi, eo]
      have vB : lkM w h a d (24 * y + x) = 1 := by unfold lkM; rw [if_pos hi]
      obtain ⟨f1, f2, f3⟩ := hF x y hx hy
      obtain ⟨k1, k2, k3⟩ := hK x' y' hx' hy'
      obtain ⟨s1, s2⟩ := dst_in f1 f2 k1 k2
      have eq : ((24 * y + x : Nat) : Int) + 24 * d + a = ((24 * y' + x' : Nat) : Int) := by omega
      rw [eq]
      simp only [Option.bind_some]
      have hne : ¬ zI ((24 * y' + x' : Nat) : Int) = -1 := by rw [zlm1, zI_eq (by omega) (by omega) (by omega) (by omega)]; omega
      have i1 : vp_in (zI ((24 * y + x : Nat) : Int)) 576 := (zn_in (by omega)).mpr (by omega)
      have i2 : vp_in (zI ((24 * y' + x' : Nat) : Int)) 576 := (zn_in (by omega)).mpr (by omega)
      rw [if_neg hne, pu_gt i1, pu_gt i2, zn_cl (k := 24 * y + x) (by omega), zn_cl (k := 24 * y' + x') (by omega), f3, k3, q_apd (by omega) (by omega) (by omega) (by omega)]
      simp only [Option.bind_some]
      rw [zI_l (by omega) (by omega), zL_add, zL1, zL_add, vA, vB]
    · rw [f hi]
      have vA : lkS w h F K a d k = 0 := by unfold lkS; rw [if_neg hi]
      have vB : lkM w h a d k = 0 := by unfold lkM; rw [if_neg hi]
      rw [vA, vB, Int.add_zero, Int.add_zero]
      rfl) (e := (zI ((576 : Nat) : Int), zL (tS w h F K a d), zL (tM w h a d))) (by
    unfold p_Mod_look_L1
    dsimp only
    rw [if_pos (by decide)]
    rfl)
  unfold p_Mod_look
  have this' : pu_loop (p_Mod_look_L1 (zI a) (zI d) th (zI w) (zI h) re wi fl ac dn ab be ma sp da 576 mf 576 ml) (0, 0, 0) = some (zI ((576 : Nat) : Int), zL (tS w h F K a d), zL (tM w h a d)) := this
  rw [this']
  rfl
/-- better: by miss, by way, across, down -/
def bt (S M W a d S' M' W' a' d' : Int) : Prop := S * M' < S' * M ∨ (S * M' = S' * M ∧ (W < W' ∨ (W = W' ∧ (a < a' ∨ (a = a' ∧ d < d')))))
theorem bt_x {S1 M1 S2 M2 S3 M3 : Int} (m1 : 1 ≤ M1) (m2 : 1 ≤ M2) (m3 : 1 ≤ M3) (h1 : S1 * M2 ≤ S2 * M1) (h2 : S2 * M3 ≤ S3 * M2) : S1 * M3 ≤ S3 * M1 := by
  have e1 : S1 * M2 * M3 ≤ S2 * M1 * M3 := Int.mul_le_mul_of_nonneg_right h1 (by omega)
  have e2 : S2 * M3 * M1 ≤ S3 * M2 * M1 := Int.mul_le_mul_of_nonneg_right h2 (by omega)
  have e3 : S1 * M3 * M2 ≤ S3 * M1 * M2 := by
    have a1 : S1 * M3 * M2 = S1 * M2 * M3 := by grind
    have a2 : S2 * M1 * M3 = S2 * M3 * M1 := by grind
    have a3 : S3 * M1 * M2 = S3 * M2 * M1 := by grind
    omega
  exact Int.le_of_mul_le_mul_right e3 (by omega)
theorem bt_xl {S1 M1 S2 M2 S3 M3 : Int} (m1 : 1 ≤ M1) (m2 : 1 ≤ M2) (m3 : 1 ≤ M3) (h1 : S1 * M2 < S2 * M1) (h2 : S2 * M3 ≤ S3 * M2) : S1 * M3 < S3 * M1 := by
  rcases Int.lt_or_le (S1 * M3) (S3 * M1) with h | h
  · exact h
  · have := bt_x m2 m3 m1 h2 h
    omega
theorem bt_xr {S1 M1 S2 M2 S3 M3 : Int} (m1 : 1 ≤ M1) (m2 : 1 ≤ M2) (m3 : 1 ≤ M3) (h1 : S1 * M2 ≤ S2 * M1) (h2 : S2 * M3 < S3 * M2) : S1 * M3 < S3 * M1 := by
  rcases Int.lt_or_le (S1 * M3) (S3 * M1) with h | h
  · exact h
  · have := bt_x m3 m1 m2 h h1
    omega
theorem bt_tr {S1 M1 W1 a1 d1 S2 M2 W2 a2 d2 S3 M3 W3 a3 d3 : Int} (m1 : 1 ≤ M1) (m2 : 1 ≤ M2) (m3 : 1 ≤ M3) (h1 : bt S1 M1 W1 a1 d1 S2 M2 W2 a2 d2) (h2 : bt S2 M2 W2 a2 d2 S3 M3 W3 a3 d3) : bt S1 M1 W1 a1 d1 S3 M3 W3 a3 d3 := by
  unfold bt at h1 h2 ⊢
  rcases h1 with h1 | ⟨h1, h1'⟩
  · rcases h2 with h2 | ⟨h2, h2'⟩
    · exact Or.inl (bt_xl m1 m2 m3 h1 (by omega))
    · exact Or.inl (bt_xl m1 m2 m3 h1 (by omega))
  · rcases h2 with h2 | ⟨h2, h2'⟩
    · exact Or.inl (bt_xr m1 m2 m3 (by omega) h2)
    · have e1 := bt_x m1 m2 m3 (show S1 * M2 ≤ S2 * M1 by omega) (show S2 * M3 ≤ S3 * M2 by omega)
      have e2 := bt_x m3 m2 m1 (show S3 * M2 ≤ S2 * M3 by omega) (show S2 * M1 ≤ S1 * M2 by omega)
      exact Or.inr ⟨by omega, by omega⟩
def way (a d : Int) : Int := (if 0 ≤ a then a else -a) + (if 0 ≤ d then d else -d)
theorem way_in {a d : Int} (a1 : -3 ≤ a) (a2 : a ≤ 3) (d1 : -3 ≤ d) (d2 : d ≤ 3) : 0 ≤ way a d ∧ way a d ≤ 6 := by unfold way; omega
theorem q_together {a d : Int} (a1 : -3 ≤ a) (a2 : a ≤ 3) (d1 : -3 ≤ d) (d2 : d ≤ 3) (x y : Int32) : p_Shift_together (zI a) (zI d) x y = some (zI (way a d)) := by
  unfold p_Shift_together way
  rw [q_abs (by omega) (by omega), q_abs (by omega) (by omega), zI_add]
theorem q_better {S M a d S' M' a' d' : Int} (s1 : 0 ≤ S ∧ S ≤ 146880) (m1 : 1 ≤ M ∧ M ≤ 576) (s2 : 0 ≤ S' ∧ S' ≤ 146880) (m2 : 1 ≤ M' ∧ M' ≤ 576) (a1 : -3 ≤ a) (a2 : a ≤ 3) (d1 : -3 ≤ d) (d2 : d ≤ 3) (a1' : -3 ≤ a') (a2' : a' ≤ 3) (d1' : -3 ≤ d') (d2' : d' ≤ 3) :
    ∃ v : Int32, p_Shift_isBetterThan (zI a) (zI d) (zI S) (zI M) (zI a') (zI d') (zI S') (zI M') = some v ∧ ((v = 0 ∧ ¬ bt S M (way a d) a d S' M' (way a' d') a' d') ∨ (v = 1 ∧ bt S M (way a d) a d S' M' (way a' d') a' d')) := by
  have p1 : 0 ≤ S * M' ∧ S * M' ≤ 146880 * 576 := ⟨Int.mul_nonneg (by omega) (by omega), Int.mul_le_mul (by omega) (by omega) (by omega) (by omega)⟩
  have p2 : 0 ≤ S' * M ∧ S' * M ≤ 146880 * 576 := ⟨Int.mul_nonneg (by omega) (by omega), Int.mul_le_mul (by omega) (by omega) (by omega) (by omega)⟩
  have w1 := way_in a1 a2 d1 d2
  have w2 := way_in a1' a2' d1' d2'
  unfold p_Shift_isBetterThan
  rw [q_together a1 a2 d1 d2, q_together a1' a2' d1' d2', zI_l (by omega) (by omega), zI_l (by omega) (by omega), zI_l (by omega) (by omega), zI_l (by omega) (by omega), zL_mul, zL_mul]
  simp only [Option.bind_some, lg_cmp_eq, lg_cmp_ge, zL_eq (show -9223372036854775808 ≤ S * M' by omega) (show S * M' ≤ 9223372036854775807 by omega) (show -9223372036854775808 ≤ S' * M by omega) (show S' * M ≤ 9223372036854775807 by omega), zL_le (show -9223372036854775808 ≤ S' * M by omega) (show S' * M ≤ 9223372036854775807 by omega) (show -9223372036854775808 ≤ S * M' by omega) (show S * M' ≤ 9223372036854775807 by omega), zI_eq (show -2147483648 ≤ way a d by omega) (show way a d ≤ 2147483647 by omega) (show -2147483648 ≤ way a' d' by omega) (show way a' d' ≤ 2147483647 by omega), zI_le (show -2147483648 ≤ way a' d' by omega) (show way a' d' ≤ 2147483647 by omega) (show -2147483648 ≤ way a d by omega) (show way a d ≤ 2147483647 by omega), zI_eq (show -2147483648 ≤ a by omega) (show a ≤ 2147483647 by omega) (show -2147483648 ≤ a' by omega) (show a' ≤ 2147483647 by omega), zI_le (show -2147483648 ≤ a' by omega) (show a' ≤ 2147483647 by omega) (show -2147483648 ≤ a by omega) (show a ≤ 2147483647 by omega), zI_le (show -2147483648 ≤ d' by omega) (show d' ≤ 2147483647 by omega) (show -2147483648 ≤ d by omega) (show d ≤ 2147483647 by omega)]
  unfold bt
  repeat' split
  all_goals first | exact ⟨0, rfl, Or.inl ⟨rfl, by omega⟩⟩ | exact ⟨1, rfl, Or.inr ⟨rfl, by omega⟩⟩
end AR
