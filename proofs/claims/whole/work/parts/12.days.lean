noncomputable def p_Days_init  : Option (Int32 × Nat × (Nat → Int32) × Nat × (Nat → Int32)) :=
  pu_gd (¬ (30 : Int32) < 0 ∧ (30 : Int32).toNatClampNeg ≤ 30) (pu_gd (¬ (30 : Int32) < 0 ∧ (30 : Int32).toNatClampNeg ≤ 30) (some (0, ((30 : Int32).toNatClampNeg), (fun _ => 0), ((30 : Int32).toNatClampNeg), (fun _ => 0))))
set_option maxHeartbeats 4000000 in
set_option maxRecDepth 100000 in
theorem c_Days_init (l : Launch) (dC : Nat → ClassId) (dI : Nat → Nat → Nat) (cI cJ cZ : ClassId) (q_o : Nat)  (r0 : Int32) (r1 : Nat) (r2 : Nat → Int32) (r3 : Nat) (r4 : Nat → Int32) (h : p_Days_init = some (r0, r1, r2, r3, r4)) : ct l y_Days_init w_Days_init rm_Days_init (dC, dI) [(cI, .int), (cJ, .long), (cZ, .boolean)] [.ref q_o] [(q_o, .inr (2, [.null, .null, .int 0]))] (fun w => ∃ (q_o_days q_o_marks : Nat), w = [(q_o, .inr (2, [.ref q_o_days, .ref q_o_marks, .int r0])), (q_o_days, .inl (cI, r1, .inl r2)), (q_o_marks, .inl (cI, r3, .inl r4))]) none := by
  refine ct_of (cc := b_Days_init) (maxL := 1) (ret := none) (lv := [(0, .ref q_o)]) (by decide) rfl rfl rfl ?_
  intro p e s m args below meth c A Q H locs hx hb hml hown hts hin hA hK hN hP hD hS RT ls hl
  unfold p_Days_init at h
  refine lv_aload_n hx hb d_Days_init_0 rfl (lv_at hl 0 rfl) ?_
  refine W.objInit hx hb hown (hts _ k_159) (hts _ k_22) (hts _ k_23) rfl (by rw [hml]; exact hl.1) rfl d_Days_init_1 (Nat.le_of_ble_eq_true rfl) (Nat.le_of_ble_eq_true rfl) ?_
  refine W.eq (g2 := F0 m 4 ls []) rfl ?_
  refine lv_aload_n hx hb d_Days_init_4 rfl (lv_at hl 0 rfl) ?_
  refine lv_bipush (v := 30) hx hb d_Days_init_5 (by decide) ?_
  obtain ⟨hg, h⟩ := pu_g h
  refine va_newa (atype := .int) (ty := .int) (a0 := ((30 : Int32).toNatClampNeg, .inl (fun _ => 0))) (N' := (30 : Int32).toNatClampNeg) hx hb (hts _ k_55) rfl hK hP hD hS hA (fun _ => rfl) hg.1 rfl (Nat.le_trans (Nat.mul_le_mul_right 4 hg.2) (by decide)) (by decide) (Nat.le_trans (Nat.add_le_add_left hg.2 _) (by decide)) d_Days_init_7 (fun q1 cA H hK2 hP hD hS => ?_)
  obtain rfl : cI = cA := va_RA_int (hK.2 0 (cI, .int) rfl).2 (hK2.2 3 (cA, .int) rfl).2
  refine W.widen (k := 1) (n := 30) (Nat.le_refl _) (Nat.add_le_add_left hg.2 _) ?_
  have hP : va_P (dC, dI) vwCl [(q_o, .inr (2, [.null, .null, .int 0])), (q1, .inl (cI, ((30 : Int32).toNatClampNeg), .inl (fun _ => 0)))] H := hP
  have hD : va_D A [(q_o, .inr (2, [.null, .null, .int 0])), (q1, .inl (cI, ((30 : Int32).toNatClampNeg), .inl (fun _ => 0)))] := hD
  refine va_putF (D := (dC, dI)) (ci := 2) (v := .ref q1) (ty := (.array .int)) (C := R_Days) (T := F_Days) (N := 3) hx hb hts i_Days t_Days t_Days_ok n_Days hown hK hP hD hS 0 rfl rfl 0 (by decide) (hts _ k_160) (fun _ h9 => h9) rfl hin rfl (by decide +kernel) rfl rfl (Nat.le_of_ble_eq_true rfl) d_Days_init_9 (fun H locs hP hD hS => ?_)
  have hP : va_P (dC, dI) vwCl [(q_o, .inr (2, [.ref q1, .null, .int 0])), (q1, .inl (cI, ((30 : Int32).toNatClampNeg), .inl (fun _ => 0)))] H := hP
  have hD : va_D A [(q_o, .inr (2, [.ref q1, .null, .int 0])), (q1, .inl (cI, ((30 : Int32).toNatClampNeg), .inl (fun _ => 0)))] := hD
  refine lv_aload_n hx hb d_Days_init_12 rfl (lv_at hl 0 rfl) ?_
  refine lv_bipush (v := 30) hx hb d_Days_init_13 (by decide) ?_
  obtain ⟨hg, h⟩ := pu_g h
  refine va_newa (atype := .int) (ty := .int) (a0 := ((30 : Int32).toNatClampNeg, .inl (fun _ => 0))) (N' := (30 : Int32).toNatClampNeg) hx hb (hts _ k_55) rfl hK hP hD hS hA (fun _ => rfl) hg.1 rfl (Nat.le_trans (Nat.mul_le_mul_right 4 hg.2) (by decide)) (by decide) (Nat.le_trans (Nat.add_le_add_left hg.2 _) (by decide)) d_Days_init_15 (fun q2 cA H hK2 hP hD hS => ?_)
  obtain rfl : cI = cA := va_RA_int (hK.2 0 (cI, .int) rfl).2 (hK2.2 3 (cA, .int) rfl).2
  refine W.widen (k := 2) (n := 60) (Nat.le_refl _) (Nat.add_le_add_left hg.2 _) ?_
  have hP : va_P (dC, dI) vwCl [(q_o, .inr (2, [.ref q1, .null, .int 0])), (q1, .inl (cI, ((30 : Int32).toNatClampNeg), .inl (fun _ => 0))), (q2, .inl (cI, ((30 : Int32).toNatClampNeg), .inl (fun _ => 0)))] H := hP
  have hD : va_D A [(q_o, .inr (2, [.ref q1, .null, .int 0])), (q1, .inl (cI, ((30 : Int32).toNatClampNeg), .inl (fun _ => 0))), (q2, .inl (cI, ((30 : Int32).toNatClampNeg), .inl (fun _ => 0)))] := hD
  refine va_putF (D := (dC, dI)) (ci := 2) (v := .ref q2) (ty := (.array .int)) (C := R_Days) (T := F_Days) (N := 3) hx hb hts i_Days t_Days t_Days_ok n_Days hown hK hP hD hS 0 rfl rfl 1 (by decide) (hts _ k_161) (fun _ h9 => h9) rfl hin rfl (by decide +kernel) rfl rfl (Nat.le_of_ble_eq_true rfl) d_Days_init_17 (fun H locs hP hD hS => ?_)
  have hP : va_P (dC, dI) vwCl [(q_o, .inr (2, [.ref q1, .ref q2, .int 0])), (q1, .inl (cI, ((30 : Int32).toNatClampNeg), .inl (fun _ => 0))), (q2, .inl (cI, ((30 : Int32).toNatClampNeg), .inl (fun _ => 0)))] H := hP
  have hD : va_D A [(q_o, .inr (2, [.ref q1, .ref q2, .int 0])), (q1, .inl (cI, ((30 : Int32).toNatClampNeg), .inl (fun _ => 0))), (q2, .inl (cI, ((30 : Int32).toNatClampNeg), .inl (fun _ => 0)))] := hD
  cases h
  refine W.widen (k := 2) (n := 60) (Nat.le_of_ble_eq_true rfl) (Nat.le_of_ble_eq_true rfl) ?_
  exact RT 20 ls H locs _ d_Days_init_20 (Or.inl ⟨rfl, rfl⟩) ⟨q1, q2, rfl⟩ (hP.sub [0, 1, 2] rfl) (hD.sub [0, 1, 2] (by decide) rfl) hS

noncomputable def p_Days_canFollow (a1 : Int32) (o_kept : Int32) (o_days_n : Nat) (o_days_f : Nat → Int32) : Option (Int32) :=
  ((if o_kept ≤ 0 then some (-1) else (if 30 < o_kept then some (-1) else pu_gd (vp_in (o_kept - 1) o_days_n) (some (o_days_f (o_kept - 1).toNatClampNeg))))).bind (fun (j1_2 : Int32) => (if a1 ≤ j1_2 then some 0 else (if 10000 < a1 then some 0 else some 1)))
set_option maxHeartbeats 4000000 in
set_option maxRecDepth 100000 in
theorem c_Days_canFollow (l : Launch) (dC : Nat → ClassId) (dI : Nat → Nat → Nat) (cI cJ cZ : ClassId) (q_o q_o_days q_o_marks : Nat) (a1 : Int32) (o_kept : Int32) (o_days_n : Nat) (o_days_f : Nat → Int32) (r0 : Int32) (h : p_Days_canFollow a1 o_kept o_days_n o_days_f = some r0) : ct l y_Days_canFollow w_Days_canFollow rm_Days_canFollow (dC, dI) [(cI, .int), (cJ, .long), (cZ, .boolean)] [.ref q_o, .int a1] [(q_o, .inr (2, [.ref q_o_days, .ref q_o_marks, .int o_kept])), (q_o_days, .inl (cI, o_days_n, .inl o_days_f))] (fun w => w = [(q_o, .inr (2, [.ref q_o_days, .ref q_o_marks, .int o_kept])), (q_o_days, .inl (cI, o_days_n, .inl o_days_f))]) (some (.int r0)) := by
  refine ct_of (cc := b_Days_canFollow) (maxL := 3) (ret := (some .boolean)) (lv := [(0, .ref q_o), (1, .int a1)]) (by decide) rfl rfl rfl ?_
  intro p e s m args below meth c A Q H locs hx hb hml hown hts hin hA hK hN hP hD hS RT ls hl
  unfold p_Days_canFollow at h
  refine lv_aload_n hx hb d_Days_canFollow_0 rfl (lv_at hl 0 rfl) ?_
  refine va_get (D := (dC, dI)) (ci := 2) (v := .int o_kept) (C := R_Days) (T := F_Days) (N := 3) hx hb hts i_Days hown hK hP 0 rfl rfl 2 (by decide) (hts _ k_162) (fun _ h9 => h9) rfl d_Days_canFollow_1 ?_
  obtain ⟨j_1, hj_1, hx_1⟩ := pu_bd h
  have J_1 : ∀ (j1_2 : Int32) (H : Heap) (locs : List Loc) (ls : Array Slot), j_1 = j1_2 → lv_has ls 3 [(0, .ref q_o), (1, .int a1)] → va_P (dC, dI) vwCl [(q_o, .inr (2, [.ref q_o_days, .ref q_o_marks, .int o_kept])), (q_o_days, .inl (cI, o_days_n, .inl o_days_f))] H → va_D A [(q_o, .inr (2, [.ref q_o_days, .ref q_o_marks, .int o_kept])), (q_o_days, .inl (cI, o_days_n, .inl o_days_f))] → va_S A s.heap H locs → W p l e rm_Days_canFollow s m args below meth c H locs 0 0 Q (F0 m 31 ls [.int j1_2]) := by
    intro j1_2 H locs ls he hl hP hD hS
    have h := hx_1
    rw [he] at h
    try dsimp only at h
    refine lv_istore_n (lv' := [(2, .int j1_2), (0, .ref q_o), (1, .int a1)]) hx hb d_Days_canFollow_31 rfl hl (by decide) rfl (fun ls hl => ?_)
    refine lv_iload_n hx hb d_Days_canFollow_32 rfl (lv_at hl 2 rfl) ?_
    refine lv_iload_n hx hb d_Days_canFollow_33 rfl (lv_at hl 0 rfl) ?_
    refine lv_icmp_le (tgt := 48) hx hb d_Days_canFollow_34 (by decide) (fun hc => ?_) (fun hc => ?_)
    · have h := pu_t hc h
      refine lv_iconst (v := 0) hx hb d_Days_canFollow_48 (by decide) ?_
      cases h
      refine W.widen (k := 0) (n := 0) (Nat.le_of_ble_eq_true rfl) (Nat.le_of_ble_eq_true rfl) ?_
      exact RT 49 ls H locs _ d_Days_canFollow_49 (Or.inr (Or.inr (Or.inr ⟨rfl, _, rfl, rfl⟩))) rfl (hP.sub [0, 1] rfl) (hD.sub [0, 1] (by decide) rfl) hS
    · have h := pu_f hc h
      refine lv_iload_n hx hb d_Days_canFollow_37 rfl (lv_at hl 2 rfl) ?_
      refine lv_sipush (v := 10000) hx hb d_Days_canFollow_38 (by decide) ?_
      refine lv_icmp_gt (tgt := 48) hx hb d_Days_canFollow_41 (by decide) (fun hc => ?_) (fun hc => ?_)
      · have h := pu_t hc h
        refine lv_iconst (v := 0) hx hb d_Days_canFollow_48 (by decide) ?_
        cases h
        refine W.widen (k := 0) (n := 0) (Nat.le_of_ble_eq_true rfl) (Nat.le_of_ble_eq_true rfl) ?_
        exact RT 49 ls H locs _ d_Days_canFollow_49 (Or.inr (Or.inr (Or.inr ⟨rfl, _, rfl, rfl⟩))) rfl (hP.sub [0, 1] rfl) (hD.sub [0, 1] (by decide) rfl) hS
      · have h := pu_f hc h
        refine lv_iconst (v := 1) hx hb d_Days_canFollow_44 (by decide) ?_
        refine lv_goto (tgt := 49) hx hb d_Days_canFollow_45 (by decide) ?_
        cases h
        refine W.widen (k := 0) (n := 0) (Nat.le_of_ble_eq_true rfl) (Nat.le_of_ble_eq_true rfl) ?_
        exact RT 49 ls H locs _ d_Days_canFollow_49 (Or.inr (Or.inr (Or.inr ⟨rfl, _, rfl, rfl⟩))) rfl (hP.sub [0, 1] rfl) (hD.sub [0, 1] (by decide) rfl) hS
  have h := hj_1
  refine lv_if_le (tgt := 30) hx hb d_Days_canFollow_4 (by decide) (fun hc => ?_) (fun hc => ?_)
  · have h := pu_t hc h
    refine lv_iconst (v := (-1)) hx hb d_Days_canFollow_30 (by decide) ?_
    exact J_1 (-1) H locs ls (Option.some.inj h).symm (lv_sub hl [0, 1] rfl) (hP.sub [0, 1] rfl) (hD.sub [0, 1] (by decide) rfl) hS
  · have h := pu_f hc h
    refine lv_aload_n hx hb d_Days_canFollow_7 rfl (lv_at hl 0 rfl) ?_
    refine va_get (D := (dC, dI)) (ci := 2) (v := .int o_kept) (C := R_Days) (T := F_Days) (N := 3) hx hb hts i_Days hown hK hP 0 rfl rfl 2 (by decide) (hts _ k_162) (fun _ h9 => h9) rfl d_Days_canFollow_8 ?_
    refine lv_bipush (v := 30) hx hb d_Days_canFollow_11 (by decide) ?_
    refine lv_icmp_gt (tgt := 30) hx hb d_Days_canFollow_13 (by decide) (fun hc => ?_) (fun hc => ?_)
    · have h := pu_t hc h
      refine lv_iconst (v := (-1)) hx hb d_Days_canFollow_30 (by decide) ?_
      exact J_1 (-1) H locs ls (Option.some.inj h).symm (lv_sub hl [0, 1] rfl) (hP.sub [0, 1] rfl) (hD.sub [0, 1] (by decide) rfl) hS
    · have h := pu_f hc h
      refine lv_aload_n hx hb d_Days_canFollow_16 rfl (lv_at hl 0 rfl) ?_
      refine va_get (D := (dC, dI)) (ci := 2) (v := .ref q_o_days) (C := R_Days) (T := F_Days) (N := 3) hx hb hts i_Days hown hK hP 0 rfl rfl 0 (by decide) (hts _ k_160) (fun _ h9 => h9) rfl d_Days_canFollow_17 ?_
      refine lv_aload_n hx hb d_Days_canFollow_20 rfl (lv_at hl 0 rfl) ?_
      refine va_get (D := (dC, dI)) (ci := 2) (v := .int o_kept) (C := R_Days) (T := F_Days) (N := 3) hx hb hts i_Days hown hK hP 0 rfl rfl 2 (by decide) (hts _ k_162) (fun _ h9 => h9) rfl d_Days_canFollow_21 ?_
      refine lv_iconst (v := 1) hx hb d_Days_canFollow_24 (by decide) ?_
      refine lv_isub hx hb d_Days_canFollow_25 ?_
      obtain ⟨hg, h⟩ := pu_g h
      refine va_iald hx hb hK hP 1 0 rfl rfl hg d_Days_canFollow_26 ?_
      refine lv_goto (tgt := 31) hx hb d_Days_canFollow_27 (by decide) ?_
      exact J_1 (o_days_f (o_kept - 1).toNatClampNeg) H locs ls (Option.some.inj h).symm (lv_sub hl [0, 1] rfl) (hP.sub [0, 1] rfl) (hD.sub [0, 1] (by decide) rfl) hS

noncomputable def p_Days_isFull (o_kept : Int32) : Option (Int32) :=
  (if o_kept < 30 then some 0 else some 1)
set_option maxHeartbeats 4000000 in
set_option maxRecDepth 100000 in
theorem c_Days_isFull (l : Launch) (dC : Nat → ClassId) (dI : Nat → Nat → Nat) (cI cJ cZ : ClassId) (q_o q_o_days q_o_marks : Nat) (o_kept : Int32) (r0 : Int32) (h : p_Days_isFull o_kept = some r0) : ct l y_Days_isFull w_Days_isFull rm_Days_isFull (dC, dI) [(cI, .int), (cJ, .long), (cZ, .boolean)] [.ref q_o] [(q_o, .inr (2, [.ref q_o_days, .ref q_o_marks, .int o_kept]))] (fun w => w = [(q_o, .inr (2, [.ref q_o_days, .ref q_o_marks, .int o_kept]))]) (some (.int r0)) := by
  refine ct_of (cc := b_Days_isFull) (maxL := 1) (ret := (some .boolean)) (lv := [(0, .ref q_o)]) (by decide) rfl rfl rfl ?_
  intro p e s m args below meth c A Q H locs hx hb hml hown hts hin hA hK hN hP hD hS RT ls hl
  unfold p_Days_isFull at h
  refine lv_aload_n hx hb d_Days_isFull_0 rfl (lv_at hl 0 rfl) ?_
  refine va_get (D := (dC, dI)) (ci := 2) (v := .int o_kept) (C := R_Days) (T := F_Days) (N := 3) hx hb hts i_Days hown hK hP 0 rfl rfl 2 (by decide) (hts _ k_162) (fun _ h9 => h9) rfl d_Days_isFull_1 ?_
  refine lv_bipush (v := 30) hx hb d_Days_isFull_4 (by decide) ?_
  refine lv_icmp_lt (tgt := 13) hx hb d_Days_isFull_6 (by decide) (fun hc => ?_) (fun hc => ?_)
  · have h := pu_t hc h
    refine lv_iconst (v := 0) hx hb d_Days_isFull_13 (by decide) ?_
    cases h
    refine W.widen (k := 0) (n := 0) (Nat.le_of_ble_eq_true rfl) (Nat.le_of_ble_eq_true rfl) ?_
    exact RT 14 ls H locs _ d_Days_isFull_14 (Or.inr (Or.inr (Or.inr ⟨rfl, _, rfl, rfl⟩))) rfl (hP.sub [0] rfl) (hD.sub [0] (by decide) rfl) hS
  · have h := pu_f hc h
    refine lv_iconst (v := 1) hx hb d_Days_isFull_9 (by decide) ?_
    refine lv_goto (tgt := 14) hx hb d_Days_isFull_10 (by decide) ?_
    cases h
    refine W.widen (k := 0) (n := 0) (Nat.le_of_ble_eq_true rfl) (Nat.le_of_ble_eq_true rfl) ?_
    exact RT 14 ls H locs _ d_Days_isFull_14 (Or.inr (Or.inr (Or.inr ⟨rfl, _, rfl, rfl⟩))) rfl (hP.sub [0] rfl) (hD.sub [0] (by decide) rfl) hS

noncomputable def p_Days_keep (a1 : Int32) (a2 : Int32) (o_kept : Int32) (o_days_n : Nat) (o_days_f : Nat → Int32) (o_marks_n : Nat) (o_marks_f : Nat → Int32) : Option (Int32 × (Nat → Int32) × (Nat → Int32)) :=
  (if 30 ≤ o_kept then some (o_kept, o_days_f, o_marks_f) else pu_gd (vp_in o_kept o_days_n) (pu_gd (vp_in o_kept o_marks_n) (some ((o_kept + 1), (upd o_days_f o_kept.toNatClampNeg a1), (upd o_marks_f o_kept.toNatClampNeg a2)))))
set_option maxHeartbeats 4000000 in
set_option maxRecDepth 100000 in
theorem c_Days_keep (l : Launch) (dC : Nat → ClassId) (dI : Nat → Nat → Nat) (cI cJ cZ : ClassId) (q_o q_o_days q_o_marks : Nat) (a1 : Int32) (a2 : Int32) (o_kept : Int32) (o_days_n : Nat) (o_days_f : Nat → Int32) (o_marks_n : Nat) (o_marks_f : Nat → Int32) (r0 : Int32) (r1 : Nat → Int32) (r2 : Nat → Int32) (h : p_Days_keep a1 a2 o_kept o_days_n o_days_f o_marks_n o_marks_f = some (r0, r1, r2)) : ct l y_Days_keep w_Days_keep rm_Days_keep (dC, dI) [(cI, .int), (cJ, .long), (cZ, .boolean)] [.ref q_o, .int a1, .int a2] [(q_o, .inr (2, [.ref q_o_days, .ref q_o_marks, .int o_kept])), (q_o_days, .inl (cI, o_days_n, .inl o_days_f)), (q_o_marks, .inl (cI, o_marks_n, .inl o_marks_f))] (fun w => w = [(q_o, .inr (2, [.ref q_o_days, .ref q_o_marks, .int r0])), (q_o_days, .inl (cI, o_days_n, .inl r1)), (q_o_marks, .inl (cI, o_marks_n, .inl r2))]) none := by
  refine ct_of (cc := b_Days_keep) (maxL := 3) (ret := none) (lv := [(0, .ref q_o), (1, .int a1), (2, .int a2)]) (by decide) rfl rfl rfl ?_
  intro p e s m args below meth c A Q H locs hx hb hml hown hts hin hA hK hN hP hD hS RT ls hl
  unfold p_Days_keep at h
  refine lv_aload_n hx hb d_Days_keep_0 rfl (lv_at hl 0 rfl) ?_
  refine va_get (D := (dC, dI)) (ci := 2) (v := .int o_kept) (C := R_Days) (T := F_Days) (N := 3) hx hb hts i_Days hown hK hP 0 rfl rfl 2 (by decide) (hts _ k_162) (fun _ h9 => h9) rfl d_Days_keep_1 ?_
  refine lv_bipush (v := 30) hx hb d_Days_keep_4 (by decide) ?_
  refine lv_icmp_ge (tgt := 39) hx hb d_Days_keep_6 (by decide) (fun hc => ?_) (fun hc => ?_)
  · have h := pu_t hc h
    cases h
    refine W.widen (k := 0) (n := 0) (Nat.le_of_ble_eq_true rfl) (Nat.le_of_ble_eq_true rfl) ?_
    exact RT 39 ls H locs _ d_Days_keep_39 (Or.inl ⟨rfl, rfl⟩) rfl (hP.sub [0, 1, 2] rfl) (hD.sub [0, 1, 2] (by decide) rfl) hS
  · have h := pu_f hc h
    refine lv_aload_n hx hb d_Days_keep_9 rfl (lv_at hl 0 rfl) ?_
    refine va_get (D := (dC, dI)) (ci := 2) (v := .ref q_o_days) (C := R_Days) (T := F_Days) (N := 3) hx hb hts i_Days hown hK hP 0 rfl rfl 0 (by decide) (hts _ k_160) (fun _ h9 => h9) rfl d_Days_keep_10 ?_
    refine lv_aload_n hx hb d_Days_keep_13 rfl (lv_at hl 0 rfl) ?_
    refine va_get (D := (dC, dI)) (ci := 2) (v := .int o_kept) (C := R_Days) (T := F_Days) (N := 3) hx hb hts i_Days hown hK hP 0 rfl rfl 2 (by decide) (hts _ k_162) (fun _ h9 => h9) rfl d_Days_keep_14 ?_
    refine lv_iload_n hx hb d_Days_keep_17 rfl (lv_at hl 1 rfl) ?_
    obtain ⟨hg, h⟩ := pu_g h
    refine va_iast hx hb hK hP hD hS 1 0 rfl rfl hg d_Days_keep_18 (fun H locs hP hD hS => ?_)
    have hP : va_P (dC, dI) vwCl [(q_o, .inr (2, [.ref q_o_days, .ref q_o_marks, .int o_kept])), (q_o_days, .inl (cI, o_days_n, .inl (upd o_days_f o_kept.toNatClampNeg a1))), (q_o_marks, .inl (cI, o_marks_n, .inl o_marks_f))] H := hP
    have hD : va_D A [(q_o, .inr (2, [.ref q_o_days, .ref q_o_marks, .int o_kept])), (q_o_days, .inl (cI, o_days_n, .inl (upd o_days_f o_kept.toNatClampNeg a1))), (q_o_marks, .inl (cI, o_marks_n, .inl o_marks_f))] := hD
    refine lv_aload_n hx hb d_Days_keep_19 rfl (lv_at hl 0 rfl) ?_
    refine va_get (D := (dC, dI)) (ci := 2) (v := .ref q_o_marks) (C := R_Days) (T := F_Days) (N := 3) hx hb hts i_Days hown hK hP 0 rfl rfl 1 (by decide) (hts _ k_161) (fun _ h9 => h9) rfl d_Days_keep_20 ?_
    refine lv_aload_n hx hb d_Days_keep_23 rfl (lv_at hl 0 rfl) ?_
    refine va_get (D := (dC, dI)) (ci := 2) (v := .int o_kept) (C := R_Days) (T := F_Days) (N := 3) hx hb hts i_Days hown hK hP 0 rfl rfl 2 (by decide) (hts _ k_162) (fun _ h9 => h9) rfl d_Days_keep_24 ?_
    refine lv_iload_n hx hb d_Days_keep_27 rfl (lv_at hl 2 rfl) ?_
    obtain ⟨hg, h⟩ := pu_g h
    refine va_iast hx hb hK hP hD hS 2 0 rfl rfl hg d_Days_keep_28 (fun H locs hP hD hS => ?_)
    have hP : va_P (dC, dI) vwCl [(q_o, .inr (2, [.ref q_o_days, .ref q_o_marks, .int o_kept])), (q_o_days, .inl (cI, o_days_n, .inl (upd o_days_f o_kept.toNatClampNeg a1))), (q_o_marks, .inl (cI, o_marks_n, .inl (upd o_marks_f o_kept.toNatClampNeg a2)))] H := hP
    have hD : va_D A [(q_o, .inr (2, [.ref q_o_days, .ref q_o_marks, .int o_kept])), (q_o_days, .inl (cI, o_days_n, .inl (upd o_days_f o_kept.toNatClampNeg a1))), (q_o_marks, .inl (cI, o_marks_n, .inl (upd o_marks_f o_kept.toNatClampNeg a2)))] := hD
    refine lv_aload_n hx hb d_Days_keep_29 rfl (lv_at hl 0 rfl) ?_
    refine lv_dup hx hb d_Days_keep_30 rfl ?_
    refine va_get (D := (dC, dI)) (ci := 2) (v := .int o_kept) (C := R_Days) (T := F_Days) (N := 3) hx hb hts i_Days hown hK hP 0 rfl rfl 2 (by decide) (hts _ k_162) (fun _ h9 => h9) rfl d_Days_keep_31 ?_
    refine lv_iconst (v := 1) hx hb d_Days_keep_34 (by decide) ?_
    refine lv_iadd hx hb d_Days_keep_35 ?_
    refine va_put (D := (dC, dI)) (ci := 2) (v := .int (o_kept + 1)) (ty := .int) (C := R_Days) (T := F_Days) (N := 3) hx hb hts i_Days t_Days t_Days_ok n_Days hown hK hP hD hS 0 rfl rfl 2 (by decide) (hts _ k_162) (fun _ h9 => h9) rfl (by decide +kernel) rfl rfl (Nat.le_of_ble_eq_true rfl) d_Days_keep_36 (fun H locs hP hD hS => ?_)
    have hP : va_P (dC, dI) vwCl [(q_o, .inr (2, [.ref q_o_days, .ref q_o_marks, .int (o_kept + 1)])), (q_o_days, .inl (cI, o_days_n, .inl (upd o_days_f o_kept.toNatClampNeg a1))), (q_o_marks, .inl (cI, o_marks_n, .inl (upd o_marks_f o_kept.toNatClampNeg a2)))] H := hP
    have hD : va_D A [(q_o, .inr (2, [.ref q_o_days, .ref q_o_marks, .int (o_kept + 1)])), (q_o_days, .inl (cI, o_days_n, .inl (upd o_days_f o_kept.toNatClampNeg a1))), (q_o_marks, .inl (cI, o_marks_n, .inl (upd o_marks_f o_kept.toNatClampNeg a2)))] := hD
    cases h
    refine W.widen (k := 0) (n := 0) (Nat.le_of_ble_eq_true rfl) (Nat.le_of_ble_eq_true rfl) ?_
    exact RT 39 ls H locs _ d_Days_keep_39 (Or.inl ⟨rfl, rfl⟩) rfl (hP.sub [0, 1, 2] rfl) (hD.sub [0, 1, 2] (by decide) rfl) hS

noncomputable def p_Days_fit_L1 (o_kept : Int32) (o_days_n : Nat) (o_days_f : Nat → Int32) (o_marks_n : Nat) (o_marks_f : Nat → Int32) : (Int64 × Int64 × Int64 × Int64 × Int32) → Option ((Int64 × Int64 × Int64 × Int64 × Int32) ⊕ (Int64 × Int64 × Int64 × Int64 × Int32)) := fun ((x2_2, x4_3, x6_4, x8_5, x10_6) : Int64 × Int64 × Int64 × Int64 × Int32) =>
  (if o_kept ≤ x10_6 then some (.inr (x2_2, x4_3, x6_4, x8_5, x10_6)) else pu_gd (vp_in x10_6 o_days_n) (pu_gd (vp_in x10_6 o_marks_n) (pu_gd (vp_in x10_6 o_marks_n) (some (.inl ((x2_2 + ((o_days_f x10_6.toNatClampNeg).toInt64)), (x4_3 + ((o_marks_f x10_6.toNatClampNeg).toInt64)), (x6_4 + (((o_days_f x10_6.toNatClampNeg).toInt64) * ((o_marks_f x10_6.toNatClampNeg).toInt64))), (x8_5 + (((o_days_f x10_6.toNatClampNeg).toInt64) * ((o_days_f x10_6.toNatClampNeg).toInt64))), (x10_6 + 1)))))))
noncomputable def p_Days_fit (o_kept : Int32) (o_days_n : Nat) (o_days_f : Nat → Int32) (o_marks_n : Nat) (o_marks_f : Nat → Int32) (p1_above : Int64) (p1_below : Int64) : Option (Int64 × Int64) :=
  (pu_loop (p_Days_fit_L1 o_kept o_days_n o_days_f o_marks_n o_marks_f) (0, 0, 0, 0, 0)).bind (fun ((y2_7, y4_8, y6_9, y8_10, y10_11) : Int64 × Int64 × Int64 × Int64 × Int32) => (if o_kept < 2 then (p_Fraction_become 0 1 p1_above p1_below).bind (fun ((u12_0, u12_1) : Int64 × Int64) => some (u12_0, u12_1)) else (if 0 < (lg_cmp (((o_kept.toInt64) * y8_10) - (y2_7 * y2_7)) 0) then (p_Fraction_become (((o_kept.toInt64) * y6_9) - (y2_7 * y4_8)) (((o_kept.toInt64) * y8_10) - (y2_7 * y2_7)) p1_above p1_below).bind (fun ((u13_0, u13_1) : Int64 × Int64) => some (u13_0, u13_1)) else (p_Fraction_become 0 1 p1_above p1_below).bind (fun ((u14_0, u14_1) : Int64 × Int64) => some (u14_0, u14_1)))))
set_option maxHeartbeats 4000000 in
set_option maxRecDepth 100000 in
theorem c_Days_fit (l : Launch) (dC : Nat → ClassId) (dI : Nat → Nat → Nat) (cI cJ cZ : ClassId) (q_o q_o_days q_o_marks q_p1 : Nat) (o_kept : Int32) (o_days_n : Nat) (o_days_f : Nat → Int32) (o_marks_n : Nat) (o_marks_f : Nat → Int32) (p1_above : Int64) (p1_below : Int64) (r0 : Int64) (r1 : Int64) (h : p_Days_fit o_kept o_days_n o_days_f o_marks_n o_marks_f p1_above p1_below = some (r0, r1)) : ct l y_Days_fit w_Days_fit rm_Days_fit (dC, dI) [(cI, .int), (cJ, .long), (cZ, .boolean)] [.ref q_o, .ref q_p1] [(q_o, .inr (2, [.ref q_o_days, .ref q_o_marks, .int o_kept])), (q_o_days, .inl (cI, o_days_n, .inl o_days_f)), (q_o_marks, .inl (cI, o_marks_n, .inl o_marks_f)), (q_p1, .inr (3, [.long p1_above, .long p1_below]))] (fun w => w = [(q_o, .inr (2, [.ref q_o_days, .ref q_o_marks, .int o_kept])), (q_o_days, .inl (cI, o_days_n, .inl o_days_f)), (q_o_marks, .inl (cI, o_marks_n, .inl o_marks_f)), (q_p1, .inr (3, [.long r0, .long r1]))]) none := by
  refine ct_of (cc := b_Days_fit) (maxL := 13) (ret := none) (lv := [(0, .ref q_o), (1, .ref q_p1)]) (by decide) rfl rfl rfl ?_
  intro p e s m args below meth c A Q H locs hx hb hml hown hts hin hA hK hN hP hD hS RT ls hl
  unfold p_Days_fit at h
  refine lv_lconst (v := 0) hx hb d_Days_fit_0 (by decide) ?_
  refine lv_lstore_n (lv' := [(2, .long 0), (0, .ref q_o), (1, .ref q_p1)]) hx hb d_Days_fit_1 rfl hl (by decide) rfl (fun ls hl => ?_)
  refine lv_lconst (v := 0) hx hb d_Days_fit_2 (by decide) ?_
  refine lv_lstore (lv' := [(4, .long 0), (2, .long 0), (0, .ref q_o), (1, .ref q_p1)]) hx hb d_Days_fit_3 hl (by decide) rfl (fun ls hl => ?_)
  refine lv_lconst (v := 0) hx hb d_Days_fit_5 (by decide) ?_
  refine lv_lstore (lv' := [(6, .long 0), (4, .long 0), (2, .long 0), (0, .ref q_o), (1, .ref q_p1)]) hx hb d_Days_fit_6 hl (by decide) rfl (fun ls hl => ?_)
  refine lv_lconst (v := 0) hx hb d_Days_fit_8 (by decide) ?_
  refine lv_lstore (lv' := [(8, .long 0), (6, .long 0), (4, .long 0), (2, .long 0), (0, .ref q_o), (1, .ref q_p1)]) hx hb d_Days_fit_9 hl (by decide) rfl (fun ls hl => ?_)
  refine lv_iconst (v := 0) hx hb d_Days_fit_11 (by decide) ?_
  refine lv_istore (lv' := [(10, .int 0), (8, .long 0), (6, .long 0), (4, .long 0), (2, .long 0), (0, .ref q_o), (1, .ref q_p1)]) hx hb d_Days_fit_12 hl (by decide) rfl (fun ls hl => ?_)
  obtain ⟨e_1, he_1, hx_1⟩ := pu_bd h
  obtain ⟨n_1, hn_1⟩ := pu_loop_it he_1
  have K_1 : ∀ (y2_7 : Int64) (y4_8 : Int64) (y6_9 : Int64) (y8_10 : Int64) (y10_11 : Int32) (H : Heap) (locs : List Loc) (ls : Array Slot), e_1 = (y2_7, y4_8, y6_9, y8_10, y10_11) → lv_has ls 13 [(10, .int y10_11), (8, .long y8_10), (6, .long y6_9), (4, .long y4_8), (2, .long y2_7), (0, .ref q_o), (1, .ref q_p1)] → va_P (dC, dI) vwCl [(q_o, .inr (2, [.ref q_o_days, .ref q_o_marks, .int o_kept])), (q_o_days, .inl (cI, o_days_n, .inl o_days_f)), (q_o_marks, .inl (cI, o_marks_n, .inl o_marks_f)), (q_p1, .inr (3, [.long p1_above, .long p1_below]))] H → va_D A [(q_o, .inr (2, [.ref q_o_days, .ref q_o_marks, .int o_kept])), (q_o_days, .inl (cI, o_days_n, .inl o_days_f)), (q_o_marks, .inl (cI, o_marks_n, .inl o_marks_f)), (q_p1, .inr (3, [.long p1_above, .long p1_below]))] → va_S A s.heap H locs → W p l e rm_Days_fit s m args below meth c H locs 0 0 Q (F0 m 83 ls []) := by
    intro y2_7 y4_8 y6_9 y8_10 y10_11 H locs ls he hl hP hD hS
    have h := hx_1
    rw [he] at h
    try dsimp only at h
    refine lv_aload_n hx hb d_Days_fit_83 rfl (lv_at hl 5 rfl) ?_
    refine va_get (D := (dC, dI)) (ci := 2) (v := .int o_kept) (C := R_Days) (T := F_Days) (N := 3) hx hb hts i_Days hown hK hP 0 rfl rfl 2 (by decide) (hts _ k_162) (fun _ h9 => h9) rfl d_Days_fit_84 ?_
    refine lv_i2l hx hb d_Days_fit_87 rfl ?_
    refine lv_lload hx hb d_Days_fit_88 (lv_at hl 1 rfl) ?_
    refine lv_lmul hx hb d_Days_fit_90 ?_
    refine lv_lload_n hx hb d_Days_fit_91 rfl (lv_at hl 4 rfl) ?_
    refine lv_lload_n hx hb d_Days_fit_92 rfl (lv_at hl 4 rfl) ?_
    refine lv_lmul hx hb d_Days_fit_93 ?_
    refine lv_lsub hx hb d_Days_fit_94 ?_
    refine lv_lstore (lv' := [(10, .long (((o_kept.toInt64) * y8_10) - (y2_7 * y2_7))), (8, .long y8_10), (6, .long y6_9), (4, .long y4_8), (2, .long y2_7), (0, .ref q_o), (1, .ref q_p1)]) hx hb d_Days_fit_95 hl (by decide) rfl (fun ls hl => ?_)
    refine lv_aload_n hx hb d_Days_fit_97 rfl (lv_at hl 5 rfl) ?_
    refine va_get (D := (dC, dI)) (ci := 2) (v := .int o_kept) (C := R_Days) (T := F_Days) (N := 3) hx hb hts i_Days hown hK hP 0 rfl rfl 2 (by decide) (hts _ k_162) (fun _ h9 => h9) rfl d_Days_fit_98 ?_
    refine lv_iconst (v := 2) hx hb d_Days_fit_101 (by decide) ?_
    refine lv_icmp_lt (tgt := 112) hx hb d_Days_fit_102 (by decide) (fun hc => ?_) (fun hc => ?_)
    · have h := pu_t hc h
      refine lv_aload_n hx hb d_Days_fit_112 rfl (lv_at hl 6 rfl) ?_
      refine lv_lconst (v := 0) hx hb d_Days_fit_113 (by decide) ?_
      refine lv_lconst (v := 1) hx hb d_Days_fit_114 (by decide) ?_
      obtain ⟨⟨u12_0, u12_1⟩, hu12, h⟩ := pu_bd h
      try dsimp only at h
      refine cc_V (As := [.long 0, .long 1]) (rest := []) ⟨hx, hb, hml, hown, hts⟩ (c_Fraction_become l dC dI cI cJ cZ q_p1 0 1 p1_above p1_below u12_0 u12_1 hu12) (cwV 2 hts (gV k_594 k_225 k_226 k_5 k_227 rfl) rfl rfl rfl hdV_Fraction_become ⟨Nat.le_of_ble_eq_true rfl, Nat.le_of_ble_eq_true rfl⟩) hK hN hP hD hS hA [3] [0, 1, 2] (w0 := [(q_p1, .inr (3, [.long p1_above, .long p1_below]))]) (wr := [(q_o, .inr (2, [.ref q_o_days, .ref q_o_marks, .int o_kept])), (q_o_days, .inl (cI, o_days_n, .inl o_days_f)), (q_o_marks, .inl (cI, o_marks_n, .inl o_marks_f))]) rfl rfl (by decide) (by decide) (by decide) 3 rfl rfl rfl hl.1 rfl (Nat.le_of_ble_eq_true rfl) d_Days_fit_115 ⟨Nat.le_of_ble_eq_true rfl, Nat.le_of_ble_eq_true rfl⟩ (fun w1 H locs hw1 hP hD hS => ?_)
      subst hw1
      have hP : va_P (dC, dI) vwCl [(q_o, .inr (2, [.ref q_o_days, .ref q_o_marks, .int o_kept])), (q_o_days, .inl (cI, o_days_n, .inl o_days_f)), (q_o_marks, .inl (cI, o_marks_n, .inl o_marks_f)), (q_p1, .inr (3, [.long u12_0, .long u12_1]))] H := hP
      have hD : va_D A [(q_o, .inr (2, [.ref q_o_days, .ref q_o_marks, .int o_kept])), (q_o_days, .inl (cI, o_days_n, .inl o_days_f)), (q_o_marks, .inl (cI, o_marks_n, .inl o_marks_f)), (q_p1, .inr (3, [.long u12_0, .long u12_1]))] := hD
      refine lv_goto (tgt := 140) hx hb d_Days_fit_118 (by decide) ?_
      cases h
      refine W.widen (k := 0) (n := 0) (Nat.le_of_ble_eq_true rfl) (Nat.le_of_ble_eq_true rfl) ?_
      exact RT 140 ls H locs _ d_Days_fit_140 (Or.inl ⟨rfl, rfl⟩) rfl (hP.sub [0, 1, 2, 3] rfl) (hD.sub [0, 1, 2, 3] (by decide) rfl) hS
    · have h := pu_f hc h
      refine lv_lload hx hb d_Days_fit_105 (lv_at hl 0 rfl) ?_
      refine lv_lconst (v := 0) hx hb d_Days_fit_107 (by decide) ?_
      refine W.lcmp hx hb d_Days_fit_108 ?_
      refine lv_if_gt (tgt := 121) hx hb d_Days_fit_109 (by decide) (fun hc => ?_) (fun hc => ?_)
      · have h := pu_t hc h
        refine lv_aload_n hx hb d_Days_fit_121 rfl (lv_at hl 6 rfl) ?_
        refine lv_aload_n hx hb d_Days_fit_122 rfl (lv_at hl 5 rfl) ?_
        refine va_get (D := (dC, dI)) (ci := 2) (v := .int o_kept) (C := R_Days) (T := F_Days) (N := 3) hx hb hts i_Days hown hK hP 0 rfl rfl 2 (by decide) (hts _ k_162) (fun _ h9 => h9) rfl d_Days_fit_123 ?_
        refine lv_i2l hx hb d_Days_fit_126 rfl ?_
        refine lv_lload hx hb d_Days_fit_127 (lv_at hl 2 rfl) ?_
        refine lv_lmul hx hb d_Days_fit_129 ?_
        refine lv_lload_n hx hb d_Days_fit_130 rfl (lv_at hl 4 rfl) ?_
        refine lv_lload hx hb d_Days_fit_131 (lv_at hl 3 rfl) ?_
        refine lv_lmul hx hb d_Days_fit_133 ?_
        refine lv_lsub hx hb d_Days_fit_134 ?_
        refine lv_lload hx hb d_Days_fit_135 (lv_at hl 0 rfl) ?_
        obtain ⟨⟨u13_0, u13_1⟩, hu13, h⟩ := pu_bd h
        try dsimp only at h
        refine cc_V (As := [.long (((o_kept.toInt64) * y6_9) - (y2_7 * y4_8)), .long (((o_kept.toInt64) * y8_10) - (y2_7 * y2_7))]) (rest := []) ⟨hx, hb, hml, hown, hts⟩ (c_Fraction_become l dC dI cI cJ cZ q_p1 (((o_kept.toInt64) * y6_9) - (y2_7 * y4_8)) (((o_kept.toInt64) * y8_10) - (y2_7 * y2_7)) p1_above p1_below u13_0 u13_1 hu13) (cwV 2 hts (gV k_594 k_225 k_226 k_5 k_227 rfl) rfl rfl rfl hdV_Fraction_become ⟨Nat.le_of_ble_eq_true rfl, Nat.le_of_ble_eq_true rfl⟩) hK hN hP hD hS hA [3] [0, 1, 2] (w0 := [(q_p1, .inr (3, [.long p1_above, .long p1_below]))]) (wr := [(q_o, .inr (2, [.ref q_o_days, .ref q_o_marks, .int o_kept])), (q_o_days, .inl (cI, o_days_n, .inl o_days_f)), (q_o_marks, .inl (cI, o_marks_n, .inl o_marks_f))]) rfl rfl (by decide) (by decide) (by decide) 3 rfl rfl rfl hl.1 rfl (Nat.le_of_ble_eq_true rfl) d_Days_fit_137 ⟨Nat.le_of_ble_eq_true rfl, Nat.le_of_ble_eq_true rfl⟩ (fun w1 H locs hw1 hP hD hS => ?_)
        subst hw1
        have hP : va_P (dC, dI) vwCl [(q_o, .inr (2, [.ref q_o_days, .ref q_o_marks, .int o_kept])), (q_o_days, .inl (cI, o_days_n, .inl o_days_f)), (q_o_marks, .inl (cI, o_marks_n, .inl o_marks_f)), (q_p1, .inr (3, [.long u13_0, .long u13_1]))] H := hP
        have hD : va_D A [(q_o, .inr (2, [.ref q_o_days, .ref q_o_marks, .int o_kept])), (q_o_days, .inl (cI, o_days_n, .inl o_days_f)), (q_o_marks, .inl (cI, o_marks_n, .inl o_marks_f)), (q_p1, .inr (3, [.long u13_0, .long u13_1]))] := hD
        cases h
        refine W.widen (k := 0) (n := 0) (Nat.le_of_ble_eq_true rfl) (Nat.le_of_ble_eq_true rfl) ?_
        exact RT 140 ls H locs _ d_Days_fit_140 (Or.inl ⟨rfl, rfl⟩) rfl (hP.sub [0, 1, 2, 3] rfl) (hD.sub [0, 1, 2, 3] (by decide) rfl) hS
      · have h := pu_f hc h
        refine lv_aload_n hx hb d_Days_fit_112 rfl (lv_at hl 6 rfl) ?_
        refine lv_lconst (v := 0) hx hb d_Days_fit_113 (by decide) ?_
        refine lv_lconst (v := 1) hx hb d_Days_fit_114 (by decide) ?_
        obtain ⟨⟨u14_0, u14_1⟩, hu14, h⟩ := pu_bd h
        try dsimp only at h
        refine cc_V (As := [.long 0, .long 1]) (rest := []) ⟨hx, hb, hml, hown, hts⟩ (c_Fraction_become l dC dI cI cJ cZ q_p1 0 1 p1_above p1_below u14_0 u14_1 hu14) (cwV 2 hts (gV k_594 k_225 k_226 k_5 k_227 rfl) rfl rfl rfl hdV_Fraction_become ⟨Nat.le_of_ble_eq_true rfl, Nat.le_of_ble_eq_true rfl⟩) hK hN hP hD hS hA [3] [0, 1, 2] (w0 := [(q_p1, .inr (3, [.long p1_above, .long p1_below]))]) (wr := [(q_o, .inr (2, [.ref q_o_days, .ref q_o_marks, .int o_kept])), (q_o_days, .inl (cI, o_days_n, .inl o_days_f)), (q_o_marks, .inl (cI, o_marks_n, .inl o_marks_f))]) rfl rfl (by decide) (by decide) (by decide) 3 rfl rfl rfl hl.1 rfl (Nat.le_of_ble_eq_true rfl) d_Days_fit_115 ⟨Nat.le_of_ble_eq_true rfl, Nat.le_of_ble_eq_true rfl⟩ (fun w1 H locs hw1 hP hD hS => ?_)
        subst hw1
        have hP : va_P (dC, dI) vwCl [(q_o, .inr (2, [.ref q_o_days, .ref q_o_marks, .int o_kept])), (q_o_days, .inl (cI, o_days_n, .inl o_days_f)), (q_o_marks, .inl (cI, o_marks_n, .inl o_marks_f)), (q_p1, .inr (3, [.long u14_0, .long u14_1]))] H := hP
        have hD : va_D A [(q_o, .inr (2, [.ref q_o_days, .ref q_o_marks, .int o_kept])), (q_o_days, .inl (cI, o_days_n, .inl o_days_f)), (q_o_marks, .inl (cI, o_marks_n, .inl o_marks_f)), (q_p1, .inr (3, [.long u14_0, .long u14_1]))] := hD
        refine lv_goto (tgt := 140) hx hb d_Days_fit_118 (by decide) ?_
        cases h
        refine W.widen (k := 0) (n := 0) (Nat.le_of_ble_eq_true rfl) (Nat.le_of_ble_eq_true rfl) ?_
        exact RT 140 ls H locs _ d_Days_fit_140 (Or.inl ⟨rfl, rfl⟩) rfl (hP.sub [0, 1, 2, 3] rfl) (hD.sub [0, 1, 2, 3] (by decide) rfl) hS
  have L_1 : ∀ (n : Nat) (x2_2 : Int64) (x4_3 : Int64) (x6_4 : Int64) (x8_5 : Int64) (x10_6 : Int32) (H : Heap) (locs : List Loc) (ls : Array Slot), pu_it (p_Days_fit_L1 o_kept o_days_n o_days_f o_marks_n o_marks_f) n (x2_2, x4_3, x6_4, x8_5, x10_6) = some e_1 → lv_has ls 13 [(10, .int x10_6), (8, .long x8_5), (6, .long x6_4), (4, .long x4_3), (2, .long x2_2), (0, .ref q_o), (1, .ref q_p1)] → va_P (dC, dI) vwCl [(q_o, .inr (2, [.ref q_o_days, .ref q_o_marks, .int o_kept])), (q_o_days, .inl (cI, o_days_n, .inl o_days_f)), (q_o_marks, .inl (cI, o_marks_n, .inl o_marks_f)), (q_p1, .inr (3, [.long p1_above, .long p1_below]))] H → va_D A [(q_o, .inr (2, [.ref q_o_days, .ref q_o_marks, .int o_kept])), (q_o_days, .inl (cI, o_days_n, .inl o_days_f)), (q_o_marks, .inl (cI, o_marks_n, .inl o_marks_f)), (q_p1, .inr (3, [.long p1_above, .long p1_below]))] → va_S A s.heap H locs → W p l e rm_Days_fit s m args below meth c H locs 0 0 Q (F0 m 14 ls []) := by
    intro n
    induction n with
    | zero => intro x2_2 x4_3 x6_4 x8_5 x10_6 H locs ls hn; exact (pu_it_0 hn).elim
    | succ n ih =>
      intro x2_2 x4_3 x6_4 x8_5 x10_6 H locs ls hn hl hP hD hS
      obtain ⟨r_1, h, hr_1⟩ := pu_it_succ hn
      unfold p_Days_fit_L1 at h
      try dsimp only at h
      refine lv_iload hx hb d_Days_fit_14 (lv_at hl 0 rfl) ?_
      refine lv_aload_n hx hb d_Days_fit_16 rfl (lv_at hl 5 rfl) ?_
      refine va_get (D := (dC, dI)) (ci := 2) (v := .int o_kept) (C := R_Days) (T := F_Days) (N := 3) hx hb hts i_Days hown hK hP 0 rfl rfl 2 (by decide) (hts _ k_162) (fun _ h9 => h9) rfl d_Days_fit_17 ?_
      refine lv_icmp_ge (tgt := 83) hx hb d_Days_fit_20 (by decide) (fun hc => ?_) (fun hc => ?_)
      · have h := pu_t hc h
        cases h
        exact K_1 x2_2 x4_3 x6_4 x8_5 x10_6 H locs ls hr_1.symm (lv_sub hl [0, 1, 2, 3, 4, 5, 6] rfl) (hP.sub [0, 1, 2, 3] rfl) (hD.sub [0, 1, 2, 3] (by decide) rfl) hS
      · have h := pu_f hc h
        refine lv_aload_n hx hb d_Days_fit_23 rfl (lv_at hl 5 rfl) ?_
        refine va_get (D := (dC, dI)) (ci := 2) (v := .ref q_o_days) (C := R_Days) (T := F_Days) (N := 3) hx hb hts i_Days hown hK hP 0 rfl rfl 0 (by decide) (hts _ k_160) (fun _ h9 => h9) rfl d_Days_fit_24 ?_
        refine lv_iload hx hb d_Days_fit_27 (lv_at hl 0 rfl) ?_
        obtain ⟨hg, h⟩ := pu_g h
        refine va_iald hx hb hK hP 1 0 rfl rfl hg d_Days_fit_29 ?_
        refine lv_i2l hx hb d_Days_fit_30 rfl ?_
        refine lv_lstore (lv' := [(11, .long ((o_days_f x10_6.toNatClampNeg).toInt64)), (10, .int x10_6), (8, .long x8_5), (6, .long x6_4), (4, .long x4_3), (2, .long x2_2), (0, .ref q_o), (1, .ref q_p1)]) hx hb d_Days_fit_31 hl (by decide) rfl (fun ls hl => ?_)
        refine lv_lload_n hx hb d_Days_fit_33 rfl (lv_at hl 5 rfl) ?_
        refine lv_lload hx hb d_Days_fit_34 (lv_at hl 0 rfl) ?_
        refine lv_ladd hx hb d_Days_fit_36 ?_
        refine lv_lstore_n (lv' := [(2, .long (x2_2 + ((o_days_f x10_6.toNatClampNeg).toInt64))), (11, .long ((o_days_f x10_6.toNatClampNeg).toInt64)), (10, .int x10_6), (8, .long x8_5), (6, .long x6_4), (4, .long x4_3), (0, .ref q_o), (1, .ref q_p1)]) hx hb d_Days_fit_37 rfl hl (by decide) rfl (fun ls hl => ?_)
        refine lv_lload hx hb d_Days_fit_38 (lv_at hl 5 rfl) ?_
        refine lv_aload_n hx hb d_Days_fit_40 rfl (lv_at hl 6 rfl) ?_
        refine va_get (D := (dC, dI)) (ci := 2) (v := .ref q_o_marks) (C := R_Days) (T := F_Days) (N := 3) hx hb hts i_Days hown hK hP 0 rfl rfl 1 (by decide) (hts _ k_161) (fun _ h9 => h9) rfl d_Days_fit_41 ?_
        refine lv_iload hx hb d_Days_fit_44 (lv_at hl 2 rfl) ?_
        obtain ⟨hg, h⟩ := pu_g h
        refine va_iald hx hb hK hP 2 0 rfl rfl hg d_Days_fit_46 ?_
        refine lv_i2l hx hb d_Days_fit_47 rfl ?_
        refine lv_ladd hx hb d_Days_fit_48 ?_
        refine lv_lstore (lv' := [(4, .long (x4_3 + ((o_marks_f x10_6.toNatClampNeg).toInt64))), (2, .long (x2_2 + ((o_days_f x10_6.toNatClampNeg).toInt64))), (11, .long ((o_days_f x10_6.toNatClampNeg).toInt64)), (10, .int x10_6), (8, .long x8_5), (6, .long x6_4), (0, .ref q_o), (1, .ref q_p1)]) hx hb d_Days_fit_49 hl (by decide) rfl (fun ls hl => ?_)
        refine lv_lload hx hb d_Days_fit_51 (lv_at hl 5 rfl) ?_
        refine lv_lload hx hb d_Days_fit_53 (lv_at hl 2 rfl) ?_
        refine lv_aload_n hx hb d_Days_fit_55 rfl (lv_at hl 6 rfl) ?_
        refine va_get (D := (dC, dI)) (ci := 2) (v := .ref q_o_marks) (C := R_Days) (T := F_Days) (N := 3) hx hb hts i_Days hown hK hP 0 rfl rfl 1 (by decide) (hts _ k_161) (fun _ h9 => h9) rfl d_Days_fit_56 ?_
        refine lv_iload hx hb d_Days_fit_59 (lv_at hl 3 rfl) ?_
        obtain ⟨hg, h⟩ := pu_g h
        refine va_iald hx hb hK hP 2 0 rfl rfl hg d_Days_fit_61 ?_
        refine lv_i2l hx hb d_Days_fit_62 rfl ?_
        refine lv_lmul hx hb d_Days_fit_63 ?_
        refine lv_ladd hx hb d_Days_fit_64 ?_
        refine lv_lstore (lv' := [(6, .long (x6_4 + (((o_days_f x10_6.toNatClampNeg).toInt64) * ((o_marks_f x10_6.toNatClampNeg).toInt64)))), (4, .long (x4_3 + ((o_marks_f x10_6.toNatClampNeg).toInt64))), (2, .long (x2_2 + ((o_days_f x10_6.toNatClampNeg).toInt64))), (11, .long ((o_days_f x10_6.toNatClampNeg).toInt64)), (10, .int x10_6), (8, .long x8_5), (0, .ref q_o), (1, .ref q_p1)]) hx hb d_Days_fit_65 hl (by decide) rfl (fun ls hl => ?_)
        refine lv_lload hx hb d_Days_fit_67 (lv_at hl 5 rfl) ?_
        refine lv_lload hx hb d_Days_fit_69 (lv_at hl 3 rfl) ?_
        refine lv_lload hx hb d_Days_fit_71 (lv_at hl 3 rfl) ?_
        refine lv_lmul hx hb d_Days_fit_73 ?_
        refine lv_ladd hx hb d_Days_fit_74 ?_
        refine lv_lstore (lv' := [(8, .long (x8_5 + (((o_days_f x10_6.toNatClampNeg).toInt64) * ((o_days_f x10_6.toNatClampNeg).toInt64)))), (6, .long (x6_4 + (((o_days_f x10_6.toNatClampNeg).toInt64) * ((o_marks_f x10_6.toNatClampNeg).toInt64)))), (4, .long (x4_3 + ((o_marks_f x10_6.toNatClampNeg).toInt64))), (2, .long (x2_2 + ((o_days_f x10_6.toNatClampNeg).toInt64))), (11, .long ((o_days_f x10_6.toNatClampNeg).toInt64)), (10, .int x10_6), (0, .ref q_o), (1, .ref q_p1)]) hx hb d_Days_fit_75 hl (by decide) rfl (fun ls hl => ?_)
        refine lv_iinc (v := (x10_6 + 1)) (lv' := [(10, .int (x10_6 + 1)), (8, .long (x8_5 + (((o_days_f x10_6.toNatClampNeg).toInt64) * ((o_days_f x10_6.toNatClampNeg).toInt64)))), (6, .long (x6_4 + (((o_days_f x10_6.toNatClampNeg).toInt64) * ((o_marks_f x10_6.toNatClampNeg).toInt64)))), (4, .long (x4_3 + ((o_marks_f x10_6.toNatClampNeg).toInt64))), (2, .long (x2_2 + ((o_days_f x10_6.toNatClampNeg).toInt64))), (11, .long ((o_days_f x10_6.toNatClampNeg).toInt64)), (0, .ref q_o), (1, .ref q_p1)]) hx hb d_Days_fit_77 hl (k := 5) rfl rfl (by decide) rfl (fun ls hl => ?_)
        refine lv_goto (tgt := 14) hx hb d_Days_fit_80 (by decide) ?_
        cases h
        exact ih (x2_2 + ((o_days_f x10_6.toNatClampNeg).toInt64)) (x4_3 + ((o_marks_f x10_6.toNatClampNeg).toInt64)) (x6_4 + (((o_days_f x10_6.toNatClampNeg).toInt64) * ((o_marks_f x10_6.toNatClampNeg).toInt64))) (x8_5 + (((o_days_f x10_6.toNatClampNeg).toInt64) * ((o_days_f x10_6.toNatClampNeg).toInt64))) (x10_6 + 1) H locs ls hr_1 (lv_sub hl [0, 1, 2, 3, 4, 6, 7] rfl) (hP.sub [0, 1, 2, 3] rfl) (hD.sub [0, 1, 2, 3] (by decide) rfl) hS
  exact L_1 n_1 0 0 0 0 0 H locs ls hn_1 hl hP hD hS
