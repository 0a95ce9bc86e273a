noncomputable def p_Mod_init_L14  : (Int32 × (Nat → Int32) × (Nat → Int32) × (Nat → Int32)) → Option ((Int32 × (Nat → Int32) × (Nat → Int32) × (Nat → Int32)) ⊕ (Int32 × (Nat → Int32) × (Nat → Int32) × (Nat → Int32))) := fun ((x3_15, new35_f_16, new44_f_17, new59_f_18) : Int32 × (Nat → Int32) × (Nat → Int32) × (Nat → Int32)) =>
  (if 576 ≤ x3_15 then some (.inr (x3_15, new35_f_16, new44_f_17, new59_f_18)) else pu_gd (vp_in x3_15 ((576 : Int32).toNatClampNeg)) (pu_gd (vp_in x3_15 ((576 : Int32).toNatClampNeg)) (pu_gd (vp_in x3_15 ((576 : Int32).toNatClampNeg)) (some (.inl ((x3_15 + 1), (upd new35_f_16 x3_15.toNatClampNeg 999), (upd new44_f_17 x3_15.toNatClampNeg (-1)), (upd new59_f_18 x3_15.toNatClampNeg (-1))))))))
noncomputable def p_Mod_init (a1 : Int32) (a2 : Int32) : Option (Int32 × Int32 × Int32 × Int32 × Int32 × Int32 × Int32 × Int32 × Int64 × Int64 × Int64 × Int64 × Int32 × Int32 × Int32 × Nat × (Nat → Int32) × Nat × (Nat → Int32) × Nat × (Nat → Int32) × Nat × (Nat → Int32) × Nat × (Nat → Int32) × Nat × (Nat → Int32) × Nat × (Nat → Int32) × Nat × (Nat → Int32) × Nat × (Nat → Int32)) :=
  pu_gd (¬ (576 : Int32) < 0 ∧ (576 : Int32).toNatClampNeg ≤ 576) (pu_gd (¬ (576 : Int32) < 0 ∧ (576 : Int32).toNatClampNeg ≤ 576) (pu_gd (¬ (576 : Int32) < 0 ∧ (576 : Int32).toNatClampNeg ≤ 576) (pu_gd (¬ (576 : Int32) < 0 ∧ (576 : Int32).toNatClampNeg ≤ 576) (pu_gd (¬ (576 : Int32) < 0 ∧ (576 : Int32).toNatClampNeg ≤ 576) (pu_gd (¬ (576 : Int32) < 0 ∧ (576 : Int32).toNatClampNeg ≤ 576) (pu_gd (¬ (576 : Int32) < 0 ∧ (576 : Int32).toNatClampNeg ≤ 576) (pu_gd (¬ (30 : Int32) < 0 ∧ (30 : Int32).toNatClampNeg ≤ 30) (pu_gd (¬ (30 : Int32) < 0 ∧ (30 : Int32).toNatClampNeg ≤ 30) (((if 4 ≤ a1 then (if a1 ≤ 24 then some a1 else some 24) else some 4)).bind (fun (j10_11 : Int32) => ((if 4 ≤ a2 then (if a2 ≤ 24 then some a2 else some 24) else some 4)).bind (fun (j12_13 : Int32) => (pu_loop (p_Mod_init_L14) (0, (fun _ => 0), (fun _ => 0), (fun _ => 0))).bind (fun ((y3_19, z20, z21, z22) : Int32 × (Nat → Int32) × (Nat → Int32) × (Nat → Int32)) => some (0, j10_11, j12_13, 0, 0, 10, 0, 0, 0, 0, 0, 0, 0, 0, 0, ((576 : Int32).toNatClampNeg), (fun _ => 0), ((576 : Int32).toNatClampNeg), (fun _ => 0), ((576 : Int32).toNatClampNeg), (fun _ => 0), ((576 : Int32).toNatClampNeg), z20, ((576 : Int32).toNatClampNeg), z21, ((576 : Int32).toNatClampNeg), z22, ((576 : Int32).toNatClampNeg), (fun _ => 0), ((30 : Int32).toNatClampNeg), (fun _ => 0), ((30 : Int32).toNatClampNeg), (fun _ => 0))))))))))))))
set_option maxHeartbeats 4000000 in
set_option maxRecDepth 100000 in
theorem c_Mod_init (l : Launch) (dC : Nat → ClassId) (dI : Nat → Nat → Nat) (cI cJ cZ : ClassId) (q_o : Nat) (a1 : Int32) (a2 : Int32) (r0 : Int32) (r1 : Int32) (r2 : Int32) (r3 : Int32) (r4 : Int32) (r5 : Int32) (r6 : Int32) (r7 : Int32) (r8 : Int64) (r9 : Int64) (r10 : Int64) (r11 : Int64) (r12 : Int32) (r13 : Int32) (r14 : Int32) (r15 : Nat) (r16 : Nat → Int32) (r17 : Nat) (r18 : Nat → Int32) (r19 : Nat) (r20 : Nat → Int32) (r21 : Nat) (r22 : Nat → Int32) (r23 : Nat) (r24 : Nat → Int32) (r25 : Nat) (r26 : Nat → Int32) (r27 : Nat) (r28 : Nat → Int32) (r29 : Nat) (r30 : Nat → Int32) (r31 : Nat) (r32 : Nat → Int32) (h : p_Mod_init a1 a2 = some (r0, r1, r2, r3, r4, r5, r6, r7, r8, r9, r10, r11, r12, r13, r14, r15, r16, r17, r18, r19, r20, r21, r22, r23, r24, r25, r26, r27, r28, r29, r30, r31, r32)) : ct l y_Mod_init w_Mod_init rm_Mod_init (dC, dI) [(cI, .int), (cJ, .long), (cZ, .boolean)] [.ref q_o, .int a1, .int a2] [(q_o, .inr (7, [.int 0, .int 0, .int 0, .null, .null, .null, .null, .null, .int 0, .int 0, .int 0, .int 0, .int 0, .long 0, .long 0, .long 0, .long 0, .null, .null, .int 0, .int 0, .int 0, .null, .null]))] (fun w => ∃ (q_o_former q_o_later q_o_charts q_o_lows q_o_highs q_o_firsts q_o_changes q_o_dates q_o_kept : Nat), w = [(q_o, .inr (7, [.int r0, .int r1, .int r2, .ref q_o_former, .ref q_o_later, .ref q_o_charts, .ref q_o_lows, .ref q_o_highs, .int r3, .int r4, .int r5, .int r6, .int r7, .long r8, .long r9, .long r10, .long r11, .ref q_o_firsts, .ref q_o_changes, .int r12, .int r13, .int r14, .ref q_o_dates, .ref q_o_kept])), (q_o_former, .inl (cI, r15, .inl r16)), (q_o_later, .inl (cI, r17, .inl r18)), (q_o_charts, .inl (cZ, r19, .inl r20)), (q_o_lows, .inl (cI, r21, .inl r22)), (q_o_highs, .inl (cI, r23, .inl r24)), (q_o_firsts, .inl (cI, r25, .inl r26)), (q_o_changes, .inl (cI, r27, .inl r28)), (q_o_dates, .inl (cI, r29, .inl r30)), (q_o_kept, .inl (cI, r31, .inl r32))]) none := by
  refine ct_of (cc := b_Mod_init) (maxL := 4) (ret := none) (lv := [(0, .ref q_o), (1, .int a1), (2, .int a2)]) (by decide) rfl rfl rfl ?_
  intro p e s m args below meth c A Q H locs hx hb hml hown hts hin hA hK hN hP hD hS RT ls hl
  unfold p_Mod_init at h
  refine lv_aload_n hx hb d_Mod_init_0 rfl (lv_at hl 0 rfl) ?_
  refine W.objInit hx hb hown (hts _ k_607) (hts _ k_22) (hts _ k_23) rfl (by rw [hml]; exact hl.1) rfl d_Mod_init_1 (Nat.le_of_ble_eq_true rfl) (Nat.le_of_ble_eq_true rfl) ?_
  refine W.eq (g2 := F0 m 4 ls []) rfl ?_
  refine lv_aload_n hx hb d_Mod_init_4 rfl (lv_at hl 0 rfl) ?_
  refine lv_sipush (v := 576) hx hb d_Mod_init_5 (by decide) ?_
  obtain ⟨hg, h⟩ := pu_g h
  refine va_newa (atype := .int) (ty := .int) (a0 := ((576 : Int32).toNatClampNeg, .inl (fun _ => 0))) (N' := (576 : Int32).toNatClampNeg) hx hb (hts _ k_55) rfl hK hP hD hS hA (fun _ => rfl) hg.1 rfl (Nat.le_trans (Nat.mul_le_mul_right 4 hg.2) (by decide)) (by decide) (Nat.le_trans (Nat.add_le_add_left hg.2 _) (by decide)) d_Mod_init_8 (fun q1 cA H hK2 hP hD hS => ?_)
  obtain rfl : cI = cA := va_RA_int (hK.2 0 (cI, .int) rfl).2 (hK2.2 3 (cA, .int) rfl).2
  refine W.widen (k := 1) (n := 576) (Nat.le_refl _) (Nat.add_le_add_left hg.2 _) ?_
  have hP : va_P (dC, dI) vwCl [(q_o, .inr (7, [.int 0, .int 0, .int 0, .null, .null, .null, .null, .null, .int 0, .int 0, .int 0, .int 0, .int 0, .long 0, .long 0, .long 0, .long 0, .null, .null, .int 0, .int 0, .int 0, .null, .null])), (q1, .inl (cI, ((576 : Int32).toNatClampNeg), .inl (fun _ => 0)))] H := hP
  have hD : va_D A [(q_o, .inr (7, [.int 0, .int 0, .int 0, .null, .null, .null, .null, .null, .int 0, .int 0, .int 0, .int 0, .int 0, .long 0, .long 0, .long 0, .long 0, .null, .null, .int 0, .int 0, .int 0, .null, .null])), (q1, .inl (cI, ((576 : Int32).toNatClampNeg), .inl (fun _ => 0)))] := hD
  refine va_putF (D := (dC, dI)) (ci := 7) (v := .ref q1) (ty := (.array .int)) (C := R_Mod) (T := F_Mod) (N := 24) hx hb hts i_Mod t_Mod t_Mod_ok n_Mod hown hK hP hD hS 0 rfl rfl 3 (by decide) (hts _ k_611) (fun _ h9 => h9) rfl hin rfl (by decide +kernel) rfl rfl (Nat.le_of_ble_eq_true rfl) d_Mod_init_10 (fun H locs hP hD hS => ?_)
  have hP : va_P (dC, dI) vwCl [(q_o, .inr (7, [.int 0, .int 0, .int 0, .ref q1, .null, .null, .null, .null, .int 0, .int 0, .int 0, .int 0, .int 0, .long 0, .long 0, .long 0, .long 0, .null, .null, .int 0, .int 0, .int 0, .null, .null])), (q1, .inl (cI, ((576 : Int32).toNatClampNeg), .inl (fun _ => 0)))] H := hP
  have hD : va_D A [(q_o, .inr (7, [.int 0, .int 0, .int 0, .ref q1, .null, .null, .null, .null, .int 0, .int 0, .int 0, .int 0, .int 0, .long 0, .long 0, .long 0, .long 0, .null, .null, .int 0, .int 0, .int 0, .null, .null])), (q1, .inl (cI, ((576 : Int32).toNatClampNeg), .inl (fun _ => 0)))] := hD
  refine lv_aload_n hx hb d_Mod_init_13 rfl (lv_at hl 0 rfl) ?_
  refine lv_sipush (v := 576) hx hb d_Mod_init_14 (by decide) ?_
  obtain ⟨hg, h⟩ := pu_g h
  refine va_newa (atype := .int) (ty := .int) (a0 := ((576 : Int32).toNatClampNeg, .inl (fun _ => 0))) (N' := (576 : Int32).toNatClampNeg) hx hb (hts _ k_55) rfl hK hP hD hS hA (fun _ => rfl) hg.1 rfl (Nat.le_trans (Nat.mul_le_mul_right 4 hg.2) (by decide)) (by decide) (Nat.le_trans (Nat.add_le_add_left hg.2 _) (by decide)) d_Mod_init_17 (fun q2 cA H hK2 hP hD hS => ?_)
  obtain rfl : cI = cA := va_RA_int (hK.2 0 (cI, .int) rfl).2 (hK2.2 3 (cA, .int) rfl).2
  refine W.widen (k := 2) (n := 1152) (Nat.le_refl _) (Nat.add_le_add_left hg.2 _) ?_
  have hP : va_P (dC, dI) vwCl [(q_o, .inr (7, [.int 0, .int 0, .int 0, .ref q1, .null, .null, .null, .null, .int 0, .int 0, .int 0, .int 0, .int 0, .long 0, .long 0, .long 0, .long 0, .null, .null, .int 0, .int 0, .int 0, .null, .null])), (q1, .inl (cI, ((576 : Int32).toNatClampNeg), .inl (fun _ => 0))), (q2, .inl (cI, ((576 : Int32).toNatClampNeg), .inl (fun _ => 0)))] H := hP
  have hD : va_D A [(q_o, .inr (7, [.int 0, .int 0, .int 0, .ref q1, .null, .null, .null, .null, .int 0, .int 0, .int 0, .int 0, .int 0, .long 0, .long 0, .long 0, .long 0, .null, .null, .int 0, .int 0, .int 0, .null, .null])), (q1, .inl (cI, ((576 : Int32).toNatClampNeg), .inl (fun _ => 0))), (q2, .inl (cI, ((576 : Int32).toNatClampNeg), .inl (fun _ => 0)))] := hD
  refine va_putF (D := (dC, dI)) (ci := 7) (v := .ref q2) (ty := (.array .int)) (C := R_Mod) (T := F_Mod) (N := 24) hx hb hts i_Mod t_Mod t_Mod_ok n_Mod hown hK hP hD hS 0 rfl rfl 4 (by decide) (hts _ k_612) (fun _ h9 => h9) rfl hin rfl (by decide +kernel) rfl rfl (Nat.le_of_ble_eq_true rfl) d_Mod_init_19 (fun H locs hP hD hS => ?_)
  have hP : va_P (dC, dI) vwCl [(q_o, .inr (7, [.int 0, .int 0, .int 0, .ref q1, .ref q2, .null, .null, .null, .int 0, .int 0, .int 0, .int 0, .int 0, .long 0, .long 0, .long 0, .long 0, .null, .null, .int 0, .int 0, .int 0, .null, .null])), (q1, .inl (cI, ((576 : Int32).toNatClampNeg), .inl (fun _ => 0))), (q2, .inl (cI, ((576 : Int32).toNatClampNeg), .inl (fun _ => 0)))] H := hP
  have hD : va_D A [(q_o, .inr (7, [.int 0, .int 0, .int 0, .ref q1, .ref q2, .null, .null, .null, .int 0, .int 0, .int 0, .int 0, .int 0, .long 0, .long 0, .long 0, .long 0, .null, .null, .int 0, .int 0, .int 0, .null, .null])), (q1, .inl (cI, ((576 : Int32).toNatClampNeg), .inl (fun _ => 0))), (q2, .inl (cI, ((576 : Int32).toNatClampNeg), .inl (fun _ => 0)))] := hD
  refine lv_aload_n hx hb d_Mod_init_22 rfl (lv_at hl 0 rfl) ?_
  refine lv_sipush (v := 576) hx hb d_Mod_init_23 (by decide) ?_
  obtain ⟨hg, h⟩ := pu_g h
  refine va_newa (atype := .boolean) (ty := .boolean) (a0 := ((576 : Int32).toNatClampNeg, .inl (fun _ => 0))) (N' := (576 : Int32).toNatClampNeg) hx hb (hts _ k_681) rfl hK hP hD hS hA (fun _ => rfl) hg.1 rfl (Nat.le_trans (Nat.mul_le_mul_right 1 hg.2) (by decide)) (by decide) (Nat.le_trans (Nat.add_le_add_left hg.2 _) (by decide)) d_Mod_init_26 (fun q3 cA H hK2 hP hD hS => ?_)
  obtain rfl : cZ = cA := va_RA_boolean (hK.2 2 (cZ, .boolean) rfl).2 (hK2.2 3 (cA, .boolean) rfl).2
  refine W.widen (k := 3) (n := 1728) (Nat.le_refl _) (Nat.add_le_add_left hg.2 _) ?_
  have hP : va_P (dC, dI) vwCl [(q_o, .inr (7, [.int 0, .int 0, .int 0, .ref q1, .ref q2, .null, .null, .null, .int 0, .int 0, .int 0, .int 0, .int 0, .long 0, .long 0, .long 0, .long 0, .null, .null, .int 0, .int 0, .int 0, .null, .null])), (q1, .inl (cI, ((576 : Int32).toNatClampNeg), .inl (fun _ => 0))), (q2, .inl (cI, ((576 : Int32).toNatClampNeg), .inl (fun _ => 0))), (q3, .inl (cZ, ((576 : Int32).toNatClampNeg), .inl (fun _ => 0)))] H := hP
  have hD : va_D A [(q_o, .inr (7, [.int 0, .int 0, .int 0, .ref q1, .ref q2, .null, .null, .null, .int 0, .int 0, .int 0, .int 0, .int 0, .long 0, .long 0, .long 0, .long 0, .null, .null, .int 0, .int 0, .int 0, .null, .null])), (q1, .inl (cI, ((576 : Int32).toNatClampNeg), .inl (fun _ => 0))), (q2, .inl (cI, ((576 : Int32).toNatClampNeg), .inl (fun _ => 0))), (q3, .inl (cZ, ((576 : Int32).toNatClampNeg), .inl (fun _ => 0)))] := hD
  refine va_putF (D := (dC, dI)) (ci := 7) (v := .ref q3) (ty := (.array .boolean)) (C := R_Mod) (T := F_Mod) (N := 24) hx hb hts i_Mod t_Mod t_Mod_ok n_Mod hown hK hP hD hS 0 rfl rfl 5 (by decide) (hts _ k_613) (fun _ h9 => h9) rfl hin rfl (by decide +kernel) rfl rfl (Nat.le_of_ble_eq_true rfl) d_Mod_init_28 (fun H locs hP hD hS => ?_)
  have hP : va_P (dC, dI) vwCl [(q_o, .inr (7, [.int 0, .int 0, .int 0, .ref q1, .ref q2, .ref q3, .null, .null, .int 0, .int 0, .int 0, .int 0, .int 0, .long 0, .long 0, .long 0, .long 0, .null, .null, .int 0, .int 0, .int 0, .null, .null])), (q1, .inl (cI, ((576 : Int32).toNatClampNeg), .inl (fun _ => 0))), (q2, .inl (cI, ((576 : Int32).toNatClampNeg), .inl (fun _ => 0))), (q3, .inl (cZ, ((576 : Int32).toNatClampNeg), .inl (fun _ => 0)))] H := hP
  have hD : va_D A [(q_o, .inr (7, [.int 0, .int 0, .int 0, .ref q1, .ref q2, .ref q3, .null, .null, .int 0, .int 0, .int 0, .int 0, .int 0, .long 0, .long 0, .long 0, .long 0, .null, .null, .int 0, .int 0, .int 0, .null, .null])), (q1, .inl (cI, ((576 : Int32).toNatClampNeg), .inl (fun _ => 0))), (q2, .inl (cI, ((576 : Int32).toNatClampNeg), .inl (fun _ => 0))), (q3, .inl (cZ, ((576 : Int32).toNatClampNeg), .inl (fun _ => 0)))] := hD
  refine lv_aload_n hx hb d_Mod_init_31 rfl (lv_at hl 0 rfl) ?_
  refine lv_sipush (v := 576) hx hb d_Mod_init_32 (by decide) ?_
  obtain ⟨hg, h⟩ := pu_g h
  refine va_newa (atype := .int) (ty := .int) (a0 := ((576 : Int32).toNatClampNeg, .inl (fun _ => 0))) (N' := (576 : Int32).toNatClampNeg) hx hb (hts _ k_55) rfl hK hP hD hS hA (fun _ => rfl) hg.1 rfl (Nat.le_trans (Nat.mul_le_mul_right 4 hg.2) (by decide)) (by decide) (Nat.le_trans (Nat.add_le_add_left hg.2 _) (by decide)) d_Mod_init_35 (fun q4 cA H hK2 hP hD hS => ?_)
  obtain rfl : cI = cA := va_RA_int (hK.2 0 (cI, .int) rfl).2 (hK2.2 3 (cA, .int) rfl).2
  refine W.widen (k := 4) (n := 2304) (Nat.le_refl _) (Nat.add_le_add_left hg.2 _) ?_
  have hP : va_P (dC, dI) vwCl [(q_o, .inr (7, [.int 0, .int 0, .int 0, .ref q1, .ref q2, .ref q3, .null, .null, .int 0, .int 0, .int 0, .int 0, .int 0, .long 0, .long 0, .long 0, .long 0, .null, .null, .int 0, .int 0, .int 0, .null, .null])), (q1, .inl (cI, ((576 : Int32).toNatClampNeg), .inl (fun _ => 0))), (q2, .inl (cI, ((576 : Int32).toNatClampNeg), .inl (fun _ => 0))), (q3, .inl (cZ, ((576 : Int32).toNatClampNeg), .inl (fun _ => 0))), (q4, .inl (cI, ((576 : Int32).toNatClampNeg), .inl (fun _ => 0)))] H := hP
  have hD : va_D A [(q_o, .inr (7, [.int 0, .int 0, .int 0, .ref q1, .ref q2, .ref q3, .null, .null, .int 0, .int 0, .int 0, .int 0, .int 0, .long 0, .long 0, .long 0, .long 0, .null, .null, .int 0, .int 0, .int 0, .null, .null])), (q1, .inl (cI, ((576 : Int32).toNatClampNeg), .inl (fun _ => 0))), (q2, .inl (cI, ((576 : Int32).toNatClampNeg), .inl (fun _ => 0))), (q3, .inl (cZ, ((576 : Int32).toNatClampNeg), .inl (fun _ => 0))), (q4, .inl (cI, ((576 : Int32).toNatClampNeg), .inl (fun _ => 0)))] := hD
  refine va_putF (D := (dC, dI)) (ci := 7) (v := .ref q4) (ty := (.array .int)) (C := R_Mod) (T := F_Mod) (N := 24) hx hb hts i_Mod t_Mod t_Mod_ok n_Mod hown hK hP hD hS 0 rfl rfl 6 (by decide) (hts _ k_614) (fun _ h9 => h9) rfl hin rfl (by decide +kernel) rfl rfl (Nat.le_of_ble_eq_true rfl) d_Mod_init_37 (fun H locs hP hD hS => ?_)
  have hP : va_P (dC, dI) vwCl [(q_o, .inr (7, [.int 0, .int 0, .int 0, .ref q1, .ref q2, .ref q3, .ref q4, .null, .int 0, .int 0, .int 0, .int 0, .int 0, .long 0, .long 0, .long 0, .long 0, .null, .null, .int 0, .int 0, .int 0, .null, .null])), (q1, .inl (cI, ((576 : Int32).toNatClampNeg), .inl (fun _ => 0))), (q2, .inl (cI, ((576 : Int32).toNatClampNeg), .inl (fun _ => 0))), (q3, .inl (cZ, ((576 : Int32).toNatClampNeg), .inl (fun _ => 0))), (q4, .inl (cI, ((576 : Int32).toNatClampNeg), .inl (fun _ => 0)))] H := hP
  have hD : va_D A [(q_o, .inr (7, [.int 0, .int 0, .int 0, .ref q1, .ref q2, .ref q3, .ref q4, .null, .int 0, .int 0, .int 0, .int 0, .int 0, .long 0, .long 0, .long 0, .long 0, .null, .null, .int 0, .int 0, .int 0, .null, .null])), (q1, .inl (cI, ((576 : Int32).toNatClampNeg), .inl (fun _ => 0))), (q2, .inl (cI, ((576 : Int32).toNatClampNeg), .inl (fun _ => 0))), (q3, .inl (cZ, ((576 : Int32).toNatClampNeg), .inl (fun _ => 0))), (q4, .inl (cI, ((576 : Int32).toNatClampNeg), .inl (fun _ => 0)))] := hD
  refine lv_aload_n hx hb d_Mod_init_40 rfl (lv_at hl 0 rfl) ?_
  refine lv_sipush (v := 576) hx hb d_Mod_init_41 (by decide) ?_
  obtain ⟨hg, h⟩ := pu_g h
  refine va_newa (atype := .int) (ty := .int) (a0 := ((576 : Int32).toNatClampNeg, .inl (fun _ => 0))) (N' := (576 : Int32).toNatClampNeg) hx hb (hts _ k_55) rfl hK hP hD hS hA (fun _ => rfl) hg.1 rfl (Nat.le_trans (Nat.mul_le_mul_right 4 hg.2) (by decide)) (by decide) (Nat.le_trans (Nat.add_le_add_left hg.2 _) (by decide)) d_Mod_init_44 (fun q5 cA H hK2 hP hD hS => ?_)
  obtain rfl : cI = cA := va_RA_int (hK.2 0 (cI, .int) rfl).2 (hK2.2 3 (cA, .int) rfl).2
  refine W.widen (k := 5) (n := 2880) (Nat.le_refl _) (Nat.add_le_add_left hg.2 _) ?_
  have hP : va_P (dC, dI) vwCl [(q_o, .inr (7, [.int 0, .int 0, .int 0, .ref q1, .ref q2, .ref q3, .ref q4, .null, .int 0, .int 0, .int 0, .int 0, .int 0, .long 0, .long 0, .long 0, .long 0, .null, .null, .int 0, .int 0, .int 0, .null, .null])), (q1, .inl (cI, ((576 : Int32).toNatClampNeg), .inl (fun _ => 0))), (q2, .inl (cI, ((576 : Int32).toNatClampNeg), .inl (fun _ => 0))), (q3, .inl (cZ, ((576 : Int32).toNatClampNeg), .inl (fun _ => 0))), (q4, .inl (cI, ((576 : Int32).toNatClampNeg), .inl (fun _ => 0))), (q5, .inl (cI, ((576 : Int32).toNatClampNeg), .inl (fun _ => 0)))] H := hP
  have hD : va_D A [(q_o, .inr (7, [.int 0, .int 0, .int 0, .ref q1, .ref q2, .ref q3, .ref q4, .null, .int 0, .int 0, .int 0, .int 0, .int 0, .long 0, .long 0, .long 0, .long 0, .null, .null, .int 0, .int 0, .int 0, .null, .null])), (q1, .inl (cI, ((576 : Int32).toNatClampNeg), .inl (fun _ => 0))), (q2, .inl (cI, ((576 : Int32).toNatClampNeg), .inl (fun _ => 0))), (q3, .inl (cZ, ((576 : Int32).toNatClampNeg), .inl (fun _ => 0))), (q4, .inl (cI, ((576 : Int32).toNatClampNeg), .inl (fun _ => 0))), (q5, .inl (cI, ((576 : Int32).toNatClampNeg), .inl (fun _ => 0)))] := hD
  refine va_putF (D := (dC, dI)) (ci := 7) (v := .ref q5) (ty := (.array .int)) (C := R_Mod) (T := F_Mod) (N := 24) hx hb hts i_Mod t_Mod t_Mod_ok n_Mod hown hK hP hD hS 0 rfl rfl 7 (by decide) (hts _ k_615) (fun _ h9 => h9) rfl hin rfl (by decide +kernel) rfl rfl (Nat.le_of_ble_eq_true rfl) d_Mod_init_46 (fun H locs hP hD hS => ?_)
  have hP : va_P (dC, dI) vwCl [(q_o, .inr (7, [.int 0, .int 0, .int 0, .ref q1, .ref q2, .ref q3, .ref q4, .ref q5, .int 0, .int 0, .int 0, .int 0, .int 0, .long 0, .long 0, .long 0, .long 0, .null, .null, .int 0, .int 0, .int 0, .null, .null])), (q1, .inl (cI, ((576 : Int32).toNatClampNeg), .inl (fun _ => 0))), (q2, .inl (cI, ((576 : Int32).toNatClampNeg), .inl (fun _ => 0))), (q3, .inl (cZ, ((576 : Int32).toNatClampNeg), .inl (fun _ => 0))), (q4, .inl (cI, ((576 : Int32).toNatClampNeg), .inl (fun _ => 0))), (q5, .inl (cI, ((576 : Int32).toNatClampNeg), .inl (fun _ => 0)))] H := hP
  have hD : va_D A [(q_o, .inr (7, [.int 0, .int 0, .int 0, .ref q1, .ref q2, .ref q3, .ref q4, .ref q5, .int 0, .int 0, .int 0, .int 0, .int 0, .long 0, .long 0, .long 0, .long 0, .null, .null, .int 0, .int 0, .int 0, .null, .null])), (q1, .inl (cI, ((576 : Int32).toNatClampNeg), .inl (fun _ => 0))), (q2, .inl (cI, ((576 : Int32).toNatClampNeg), .inl (fun _ => 0))), (q3, .inl (cZ, ((576 : Int32).toNatClampNeg), .inl (fun _ => 0))), (q4, .inl (cI, ((576 : Int32).toNatClampNeg), .inl (fun _ => 0))), (q5, .inl (cI, ((576 : Int32).toNatClampNeg), .inl (fun _ => 0)))] := hD
  refine lv_aload_n hx hb d_Mod_init_49 rfl (lv_at hl 0 rfl) ?_
  refine lv_bipush (v := 10) hx hb d_Mod_init_50 (by decide) ?_
  refine va_put (D := (dC, dI)) (ci := 7) (v := .int 10) (ty := .int) (C := R_Mod) (T := F_Mod) (N := 24) hx hb hts i_Mod t_Mod t_Mod_ok n_Mod hown hK hP hD hS 0 rfl rfl 10 (by decide) (hts _ k_618) (fun _ h9 => h9) rfl (by decide +kernel) rfl rfl (Nat.le_of_ble_eq_true rfl) d_Mod_init_52 (fun H locs hP hD hS => ?_)
  have hP : va_P (dC, dI) vwCl [(q_o, .inr (7, [.int 0, .int 0, .int 0, .ref q1, .ref q2, .ref q3, .ref q4, .ref q5, .int 0, .int 0, .int 10, .int 0, .int 0, .long 0, .long 0, .long 0, .long 0, .null, .null, .int 0, .int 0, .int 0, .null, .null])), (q1, .inl (cI, ((576 : Int32).toNatClampNeg), .inl (fun _ => 0))), (q2, .inl (cI, ((576 : Int32).toNatClampNeg), .inl (fun _ => 0))), (q3, .inl (cZ, ((576 : Int32).toNatClampNeg), .inl (fun _ => 0))), (q4, .inl (cI, ((576 : Int32).toNatClampNeg), .inl (fun _ => 0))), (q5, .inl (cI, ((576 : Int32).toNatClampNeg), .inl (fun _ => 0)))] H := hP
  have hD : va_D A [(q_o, .inr (7, [.int 0, .int 0, .int 0, .ref q1, .ref q2, .ref q3, .ref q4, .ref q5, .int 0, .int 0, .int 10, .int 0, .int 0, .long 0, .long 0, .long 0, .long 0, .null, .null, .int 0, .int 0, .int 0, .null, .null])), (q1, .inl (cI, ((576 : Int32).toNatClampNeg), .inl (fun _ => 0))), (q2, .inl (cI, ((576 : Int32).toNatClampNeg), .inl (fun _ => 0))), (q3, .inl (cZ, ((576 : Int32).toNatClampNeg), .inl (fun _ => 0))), (q4, .inl (cI, ((576 : Int32).toNatClampNeg), .inl (fun _ => 0))), (q5, .inl (cI, ((576 : Int32).toNatClampNeg), .inl (fun _ => 0)))] := hD
  refine lv_aload_n hx hb d_Mod_init_55 rfl (lv_at hl 0 rfl) ?_
  refine lv_sipush (v := 576) hx hb d_Mod_init_56 (by decide) ?_
  obtain ⟨hg, h⟩ := pu_g h
  refine va_newa (atype := .int) (ty := .int) (a0 := ((576 : Int32).toNatClampNeg, .inl (fun _ => 0))) (N' := (576 : Int32).toNatClampNeg) hx hb (hts _ k_55) rfl hK hP hD hS hA (fun _ => rfl) hg.1 rfl (Nat.le_trans (Nat.mul_le_mul_right 4 hg.2) (by decide)) (by decide) (Nat.le_trans (Nat.add_le_add_left hg.2 _) (by decide)) d_Mod_init_59 (fun q6 cA H hK2 hP hD hS => ?_)
  obtain rfl : cI = cA := va_RA_int (hK.2 0 (cI, .int) rfl).2 (hK2.2 3 (cA, .int) rfl).2
  refine W.widen (k := 6) (n := 3456) (Nat.le_refl _) (Nat.add_le_add_left hg.2 _) ?_
  have hP : va_P (dC, dI) vwCl [(q_o, .inr (7, [.int 0, .int 0, .int 0, .ref q1, .ref q2, .ref q3, .ref q4, .ref q5, .int 0, .int 0, .int 10, .int 0, .int 0, .long 0, .long 0, .long 0, .long 0, .null, .null, .int 0, .int 0, .int 0, .null, .null])), (q1, .inl (cI, ((576 : Int32).toNatClampNeg), .inl (fun _ => 0))), (q2, .inl (cI, ((576 : Int32).toNatClampNeg), .inl (fun _ => 0))), (q3, .inl (cZ, ((576 : Int32).toNatClampNeg), .inl (fun _ => 0))), (q4, .inl (cI, ((576 : Int32).toNatClampNeg), .inl (fun _ => 0))), (q5, .inl (cI, ((576 : Int32).toNatClampNeg), .inl (fun _ => 0))), (q6, .inl (cI, ((576 : Int32).toNatClampNeg), .inl (fun _ => 0)))] H := hP
  have hD : va_D A [(q_o, .inr (7, [.int 0, .int 0, .int 0, .ref q1, .ref q2, .ref q3, .ref q4, .ref q5, .int 0, .int 0, .int 10, .int 0, .int 0, .long 0, .long 0, .long 0, .long 0, .null, .null, .int 0, .int 0, .int 0, .null, .null])), (q1, .inl (cI, ((576 : Int32).toNatClampNeg), .inl (fun _ => 0))), (q2, .inl (cI, ((576 : Int32).toNatClampNeg), .inl (fun _ => 0))), (q3, .inl (cZ, ((576 : Int32).toNatClampNeg), .inl (fun _ => 0))), (q4, .inl (cI, ((576 : Int32).toNatClampNeg), .inl (fun _ => 0))), (q5, .inl (cI, ((576 : Int32).toNatClampNeg), .inl (fun _ => 0))), (q6, .inl (cI, ((576 : Int32).toNatClampNeg), .inl (fun _ => 0)))] := hD
  refine va_putF (D := (dC, dI)) (ci := 7) (v := .ref q6) (ty := (.array .int)) (C := R_Mod) (T := F_Mod) (N := 24) hx hb hts i_Mod t_Mod t_Mod_ok n_Mod hown hK hP hD hS 0 rfl rfl 17 (by decide) (hts _ k_625) (fun _ h9 => h9) rfl hin rfl (by decide +kernel) rfl rfl (Nat.le_of_ble_eq_true rfl) d_Mod_init_61 (fun H locs hP hD hS => ?_)
  have hP : va_P (dC, dI) vwCl [(q_o, .inr (7, [.int 0, .int 0, .int 0, .ref q1, .ref q2, .ref q3, .ref q4, .ref q5, .int 0, .int 0, .int 10, .int 0, .int 0, .long 0, .long 0, .long 0, .long 0, .ref q6, .null, .int 0, .int 0, .int 0, .null, .null])), (q1, .inl (cI, ((576 : Int32).toNatClampNeg), .inl (fun _ => 0))), (q2, .inl (cI, ((576 : Int32).toNatClampNeg), .inl (fun _ => 0))), (q3, .inl (cZ, ((576 : Int32).toNatClampNeg), .inl (fun _ => 0))), (q4, .inl (cI, ((576 : Int32).toNatClampNeg), .inl (fun _ => 0))), (q5, .inl (cI, ((576 : Int32).toNatClampNeg), .inl (fun _ => 0))), (q6, .inl (cI, ((576 : Int32).toNatClampNeg), .inl (fun _ => 0)))] H := hP
  have hD : va_D A [(q_o, .inr (7, [.int 0, .int 0, .int 0, .ref q1, .ref q2, .ref q3, .ref q4, .ref q5, .int 0, .int 0, .int 10, .int 0, .int 0, .long 0, .long 0, .long 0, .long 0, .ref q6, .null, .int 0, .int 0, .int 0, .null, .null])), (q1, .inl (cI, ((576 : Int32).toNatClampNeg), .inl (fun _ => 0))), (q2, .inl (cI, ((576 : Int32).toNatClampNeg), .inl (fun _ => 0))), (q3, .inl (cZ, ((576 : Int32).toNatClampNeg), .inl (fun _ => 0))), (q4, .inl (cI, ((576 : Int32).toNatClampNeg), .inl (fun _ => 0))), (q5, .inl (cI, ((576 : Int32).toNatClampNeg), .inl (fun _ => 0))), (q6, .inl (cI, ((576 : Int32).toNatClampNeg), .inl (fun _ => 0)))] := hD
  refine lv_aload_n hx hb d_Mod_init_64 rfl (lv_at hl 0 rfl) ?_
  refine lv_sipush (v := 576) hx hb d_Mod_init_65 (by decide) ?_
  obtain ⟨hg, h⟩ := pu_g h
  refine va_newa (atype := .int) (ty := .int) (a0 := ((576 : Int32).toNatClampNeg, .inl (fun _ => 0))) (N' := (576 : Int32).toNatClampNeg) hx hb (hts _ k_55) rfl hK hP hD hS hA (fun _ => rfl) hg.1 rfl (Nat.le_trans (Nat.mul_le_mul_right 4 hg.2) (by decide)) (by decide) (Nat.le_trans (Nat.add_le_add_left hg.2 _) (by decide)) d_Mod_init_68 (fun q7 cA H hK2 hP hD hS => ?_)
  obtain rfl : cI = cA := va_RA_int (hK.2 0 (cI, .int) rfl).2 (hK2.2 3 (cA, .int) rfl).2
  refine W.widen (k := 7) (n := 4032) (Nat.le_refl _) (Nat.add_le_add_left hg.2 _) ?_
  have hP : va_P (dC, dI) vwCl [(q_o, .inr (7, [.int 0, .int 0, .int 0, .ref q1, .ref q2, .ref q3, .ref q4, .ref q5, .int 0, .int 0, .int 10, .int 0, .int 0, .long 0, .long 0, .long 0, .long 0, .ref q6, .null, .int 0, .int 0, .int 0, .null, .null])), (q1, .inl (cI, ((576 : Int32).toNatClampNeg), .inl (fun _ => 0))), (q2, .inl (cI, ((576 : Int32).toNatClampNeg), .inl (fun _ => 0))), (q3, .inl (cZ, ((576 : Int32).toNatClampNeg), .inl (fun _ => 0))), (q4, .inl (cI, ((576 : Int32).toNatClampNeg), .inl (fun _ => 0))), (q5, .inl (cI, ((576 : Int32).toNatClampNeg), .inl (fun _ => 0))), (q6, .inl (cI, ((576 : Int32).toNatClampNeg), .inl (fun _ => 0))), (q7, .inl (cI, ((576 : Int32).toNatClampNeg), .inl (fun _ => 0)))] H := hP
  have hD : va_D A [(q_o, .inr (7, [.int 0, .int 0, .int 0, .ref q1, .ref q2, .ref q3, .ref q4, .ref q5, .int 0, .int 0, .int 10, .int 0, .int 0, .long 0, .long 0, .long 0, .long 0, .ref q6, .null, .int 0, .int 0, .int 0, .null, .null])), (q1, .inl (cI, ((576 : Int32).toNatClampNeg), .inl (fun _ => 0))), (q2, .inl (cI, ((576 : Int32).toNatClampNeg), .inl (fun _ => 0))), (q3, .inl (cZ, ((576 : Int32).toNatClampNeg), .inl (fun _ => 0))), (q4, .inl (cI, ((576 : Int32).toNatClampNeg), .inl (fun _ => 0))), (q5, .inl (cI, ((576 : Int32).toNatClampNeg), .inl (fun _ => 0))), (q6, .inl (cI, ((576 : Int32).toNatClampNeg), .inl (fun _ => 0))), (q7, .inl (cI, ((576 : Int32).toNatClampNeg), .inl (fun _ => 0)))] := hD
  refine va_putF (D := (dC, dI)) (ci := 7) (v := .ref q7) (ty := (.array .int)) (C := R_Mod) (T := F_Mod) (N := 24) hx hb hts i_Mod t_Mod t_Mod_ok n_Mod hown hK hP hD hS 0 rfl rfl 18 (by decide) (hts _ k_626) (fun _ h9 => h9) rfl hin rfl (by decide +kernel) rfl rfl (Nat.le_of_ble_eq_true rfl) d_Mod_init_70 (fun H locs hP hD hS => ?_)
  have hP : va_P (dC, dI) vwCl [(q_o, .inr (7, [.int 0, .int 0, .int 0, .ref q1, .ref q2, .ref q3, .ref q4, .ref q5, .int 0, .int 0, .int 10, .int 0, .int 0, .long 0, .long 0, .long 0, .long 0, .ref q6, .ref q7, .int 0, .int 0, .int 0, .null, .null])), (q1, .inl (cI, ((576 : Int32).toNatClampNeg), .inl (fun _ => 0))), (q2, .inl (cI, ((576 : Int32).toNatClampNeg), .inl (fun _ => 0))), (q3, .inl (cZ, ((576 : Int32).toNatClampNeg), .inl (fun _ => 0))), (q4, .inl (cI, ((576 : Int32).toNatClampNeg), .inl (fun _ => 0))), (q5, .inl (cI, ((576 : Int32).toNatClampNeg), .inl (fun _ => 0))), (q6, .inl (cI, ((576 : Int32).toNatClampNeg), .inl (fun _ => 0))), (q7, .inl (cI, ((576 : Int32).toNatClampNeg), .inl (fun _ => 0)))] H := hP
  have hD : va_D A [(q_o, .inr (7, [.int 0, .int 0, .int 0, .ref q1, .ref q2, .ref q3, .ref q4, .ref q5, .int 0, .int 0, .int 10, .int 0, .int 0, .long 0, .long 0, .long 0, .long 0, .ref q6, .ref q7, .int 0, .int 0, .int 0, .null, .null])), (q1, .inl (cI, ((576 : Int32).toNatClampNeg), .inl (fun _ => 0))), (q2, .inl (cI, ((576 : Int32).toNatClampNeg), .inl (fun _ => 0))), (q3, .inl (cZ, ((576 : Int32).toNatClampNeg), .inl (fun _ => 0))), (q4, .inl (cI, ((576 : Int32).toNatClampNeg), .inl (fun _ => 0))), (q5, .inl (cI, ((576 : Int32).toNatClampNeg), .inl (fun _ => 0))), (q6, .inl (cI, ((576 : Int32).toNatClampNeg), .inl (fun _ => 0))), (q7, .inl (cI, ((576 : Int32).toNatClampNeg), .inl (fun _ => 0)))] := hD
  refine lv_aload_n hx hb d_Mod_init_73 rfl (lv_at hl 0 rfl) ?_
  refine lv_bipush (v := 30) hx hb d_Mod_init_74 (by decide) ?_
  obtain ⟨hg, h⟩ := pu_g h
  refine va_newa (atype := .int) (ty := .int) (a0 := ((30 : Int32).toNatClampNeg, .inl (fun _ => 0))) (N' := (30 : Int32).toNatClampNeg) hx hb (hts _ k_55) rfl hK hP hD hS hA (fun _ => rfl) hg.1 rfl (Nat.le_trans (Nat.mul_le_mul_right 4 hg.2) (by decide)) (by decide) (Nat.le_trans (Nat.add_le_add_left hg.2 _) (by decide)) d_Mod_init_76 (fun q8 cA H hK2 hP hD hS => ?_)
  obtain rfl : cI = cA := va_RA_int (hK.2 0 (cI, .int) rfl).2 (hK2.2 3 (cA, .int) rfl).2
  refine W.widen (k := 8) (n := 4062) (Nat.le_refl _) (Nat.add_le_add_left hg.2 _) ?_
  have hP : va_P (dC, dI) vwCl [(q_o, .inr (7, [.int 0, .int 0, .int 0, .ref q1, .ref q2, .ref q3, .ref q4, .ref q5, .int 0, .int 0, .int 10, .int 0, .int 0, .long 0, .long 0, .long 0, .long 0, .ref q6, .ref q7, .int 0, .int 0, .int 0, .null, .null])), (q1, .inl (cI, ((576 : Int32).toNatClampNeg), .inl (fun _ => 0))), (q2, .inl (cI, ((576 : Int32).toNatClampNeg), .inl (fun _ => 0))), (q3, .inl (cZ, ((576 : Int32).toNatClampNeg), .inl (fun _ => 0))), (q4, .inl (cI, ((576 : Int32).toNatClampNeg), .inl (fun _ => 0))), (q5, .inl (cI, ((576 : Int32).toNatClampNeg), .inl (fun _ => 0))), (q6, .inl (cI, ((576 : Int32).toNatClampNeg), .inl (fun _ => 0))), (q7, .inl (cI, ((576 : Int32).toNatClampNeg), .inl (fun _ => 0))), (q8, .inl (cI, ((30 : Int32).toNatClampNeg), .inl (fun _ => 0)))] H := hP
  have hD : va_D A [(q_o, .inr (7, [.int 0, .int 0, .int 0, .ref q1, .ref q2, .ref q3, .ref q4, .ref q5, .int 0, .int 0, .int 10, .int 0, .int 0, .long 0, .long 0, .long 0, .long 0, .ref q6, .ref q7, .int 0, .int 0, .int 0, .null, .null])), (q1, .inl (cI, ((576 : Int32).toNatClampNeg), .inl (fun _ => 0))), (q2, .inl (cI, ((576 : Int32).toNatClampNeg), .inl (fun _ => 0))), (q3, .inl (cZ, ((576 : Int32).toNatClampNeg), .inl (fun _ => 0))), (q4, .inl (cI, ((576 : Int32).toNatClampNeg), .inl (fun _ => 0))), (q5, .inl (cI, ((576 : Int32).toNatClampNeg), .inl (fun _ => 0))), (q6, .inl (cI, ((576 : Int32).toNatClampNeg), .inl (fun _ => 0))), (q7, .inl (cI, ((576 : Int32).toNatClampNeg), .inl (fun _ => 0))), (q8, .inl (cI, ((30 : Int32).toNatClampNeg), .inl (fun _ => 0)))] := hD
  refine va_putF (D := (dC, dI)) (ci := 7) (v := .ref q8) (ty := (.array .int)) (C := R_Mod) (T := F_Mod) (N := 24) hx hb hts i_Mod t_Mod t_Mod_ok n_Mod hown hK hP hD hS 0 rfl rfl 22 (by decide) (hts _ k_630) (fun _ h9 => h9) rfl hin rfl (by decide +kernel) rfl rfl (Nat.le_of_ble_eq_true rfl) d_Mod_init_78 (fun H locs hP hD hS => ?_)
  have hP : va_P (dC, dI) vwCl [(q_o, .inr (7, [.int 0, .int 0, .int 0, .ref q1, .ref q2, .ref q3, .ref q4, .ref q5, .int 0, .int 0, .int 10, .int 0, .int 0, .long 0, .long 0, .long 0, .long 0, .ref q6, .ref q7, .int 0, .int 0, .int 0, .ref q8, .null])), (q1, .inl (cI, ((576 : Int32).toNatClampNeg), .inl (fun _ => 0))), (q2, .inl (cI, ((576 : Int32).toNatClampNeg), .inl (fun _ => 0))), (q3, .inl (cZ, ((576 : Int32).toNatClampNeg), .inl (fun _ => 0))), (q4, .inl (cI, ((576 : Int32).toNatClampNeg), .inl (fun _ => 0))), (q5, .inl (cI, ((576 : Int32).toNatClampNeg), .inl (fun _ => 0))), (q6, .inl (cI, ((576 : Int32).toNatClampNeg), .inl (fun _ => 0))), (q7, .inl (cI, ((576 : Int32).toNatClampNeg), .inl (fun _ => 0))), (q8, .inl (cI, ((30 : Int32).toNatClampNeg), .inl (fun _ => 0)))] H := hP
  have hD : va_D A [(q_o, .inr (7, [.int 0, .int 0, .int 0, .ref q1, .ref q2, .ref q3, .ref q4, .ref q5, .int 0, .int 0, .int 10, .int 0, .int 0, .long 0, .long 0, .long 0, .long 0, .ref q6, .ref q7, .int 0, .int 0, .int 0, .ref q8, .null])), (q1, .inl (cI, ((576 : Int32).toNatClampNeg), .inl (fun _ => 0))), (q2, .inl (cI, ((576 : Int32).toNatClampNeg), .inl (fun _ => 0))), (q3, .inl (cZ, ((576 : Int32).toNatClampNeg), .inl (fun _ => 0))), (q4, .inl (cI, ((576 : Int32).toNatClampNeg), .inl (fun _ => 0))), (q5, .inl (cI, ((576 : Int32).toNatClampNeg), .inl (fun _ => 0))), (q6, .inl (cI, ((576 : Int32).toNatClampNeg), .inl (fun _ => 0))), (q7, .inl (cI, ((576 : Int32).toNatClampNeg), .inl (fun _ => 0))), (q8, .inl (cI, ((30 : Int32).toNatClampNeg), .inl (fun _ => 0)))] := hD
  refine lv_aload_n hx hb d_Mod_init_81 rfl (lv_at hl 0 rfl) ?_
  refine lv_bipush (v := 30) hx hb d_Mod_init_82 (by decide) ?_
  obtain ⟨hg, h⟩ := pu_g h
  refine va_newa (atype := .int) (ty := .int) (a0 := ((30 : Int32).toNatClampNeg, .inl (fun _ => 0))) (N' := (30 : Int32).toNatClampNeg) hx hb (hts _ k_55) rfl hK hP hD hS hA (fun _ => rfl) hg.1 rfl (Nat.le_trans (Nat.mul_le_mul_right 4 hg.2) (by decide)) (by decide) (Nat.le_trans (Nat.add_le_add_left hg.2 _) (by decide)) d_Mod_init_84 (fun q9 cA H hK2 hP hD hS => ?_)
  obtain rfl : cI = cA := va_RA_int (hK.2 0 (cI, .int) rfl).2 (hK2.2 3 (cA, .int) rfl).2
  refine W.widen (k := 9) (n := 4092) (Nat.le_refl _) (Nat.add_le_add_left hg.2 _) ?_
  have hP : va_P (dC, dI) vwCl [(q_o, .inr (7, [.int 0, .int 0, .int 0, .ref q1, .ref q2, .ref q3, .ref q4, .ref q5, .int 0, .int 0, .int 10, .int 0, .int 0, .long 0, .long 0, .long 0, .long 0, .ref q6, .ref q7, .int 0, .int 0, .int 0, .ref q8, .null])), (q1, .inl (cI, ((576 : Int32).toNatClampNeg), .inl (fun _ => 0))), (q2, .inl (cI, ((576 : Int32).toNatClampNeg), .inl (fun _ => 0))), (q3, .inl (cZ, ((576 : Int32).toNatClampNeg), .inl (fun _ => 0))), (q4, .inl (cI, ((576 : Int32).toNatClampNeg), .inl (fun _ => 0))), (q5, .inl (cI, ((576 : Int32).toNatClampNeg), .inl (fun _ => 0))), (q6, .inl (cI, ((576 : Int32).toNatClampNeg), .inl (fun _ => 0))), (q7, .inl (cI, ((576 : Int32).toNatClampNeg), .inl (fun _ => 0))), (q8, .inl (cI, ((30 : Int32).toNatClampNeg), .inl (fun _ => 0))), (q9, .inl (cI, ((30 : Int32).toNatClampNeg), .inl (fun _ => 0)))] H := hP
  have hD : va_D A [(q_o, .inr (7, [.int 0, .int 0, .int 0, .ref q1, .ref q2, .ref q3, .ref q4, .ref q5, .int 0, .int 0, .int 10, .int 0, .int 0, .long 0, .long 0, .long 0, .long 0, .ref q6, .ref q7, .int 0, .int 0, .int 0, .ref q8, .null])), (q1, .inl (cI, ((576 : Int32).toNatClampNeg), .inl (fun _ => 0))), (q2, .inl (cI, ((576 : Int32).toNatClampNeg), .inl (fun _ => 0))), (q3, .inl (cZ, ((576 : Int32).toNatClampNeg), .inl (fun _ => 0))), (q4, .inl (cI, ((576 : Int32).toNatClampNeg), .inl (fun _ => 0))), (q5, .inl (cI, ((576 : Int32).toNatClampNeg), .inl (fun _ => 0))), (q6, .inl (cI, ((576 : Int32).toNatClampNeg), .inl (fun _ => 0))), (q7, .inl (cI, ((576 : Int32).toNatClampNeg), .inl (fun _ => 0))), (q8, .inl (cI, ((30 : Int32).toNatClampNeg), .inl (fun _ => 0))), (q9, .inl (cI, ((30 : Int32).toNatClampNeg), .inl (fun _ => 0)))] := hD
  refine va_putF (D := (dC, dI)) (ci := 7) (v := .ref q9) (ty := (.array .int)) (C := R_Mod) (T := F_Mod) (N := 24) hx hb hts i_Mod t_Mod t_Mod_ok n_Mod hown hK hP hD hS 0 rfl rfl 23 (by decide) (hts _ k_631) (fun _ h9 => h9) rfl hin rfl (by decide +kernel) rfl rfl (Nat.le_of_ble_eq_true rfl) d_Mod_init_86 (fun H locs hP hD hS => ?_)
  have hP : va_P (dC, dI) vwCl [(q_o, .inr (7, [.int 0, .int 0, .int 0, .ref q1, .ref q2, .ref q3, .ref q4, .ref q5, .int 0, .int 0, .int 10, .int 0, .int 0, .long 0, .long 0, .long 0, .long 0, .ref q6, .ref q7, .int 0, .int 0, .int 0, .ref q8, .ref q9])), (q1, .inl (cI, ((576 : Int32).toNatClampNeg), .inl (fun _ => 0))), (q2, .inl (cI, ((576 : Int32).toNatClampNeg), .inl (fun _ => 0))), (q3, .inl (cZ, ((576 : Int32).toNatClampNeg), .inl (fun _ => 0))), (q4, .inl (cI, ((576 : Int32).toNatClampNeg), .inl (fun _ => 0))), (q5, .inl (cI, ((576 : Int32).toNatClampNeg), .inl (fun _ => 0))), (q6, .inl (cI, ((576 : Int32).toNatClampNeg), .inl (fun _ => 0))), (q7, .inl (cI, ((576 : Int32).toNatClampNeg), .inl (fun _ => 0))), (q8, .inl (cI, ((30 : Int32).toNatClampNeg), .inl (fun _ => 0))), (q9, .inl (cI, ((30 : Int32).toNatClampNeg), .inl (fun _ => 0)))] H := hP
  have hD : va_D A [(q_o, .inr (7, [.int 0, .int 0, .int 0, .ref q1, .ref q2, .ref q3, .ref q4, .ref q5, .int 0, .int 0, .int 10, .int 0, .int 0, .long 0, .long 0, .long 0, .long 0, .ref q6, .ref q7, .int 0, .int 0, .int 0, .ref q8, .ref q9])), (q1, .inl (cI, ((576 : Int32).toNatClampNeg), .inl (fun _ => 0))), (q2, .inl (cI, ((576 : Int32).toNatClampNeg), .inl (fun _ => 0))), (q3, .inl (cZ, ((576 : Int32).toNatClampNeg), .inl (fun _ => 0))), (q4, .inl (cI, ((576 : Int32).toNatClampNeg), .inl (fun _ => 0))), (q5, .inl (cI, ((576 : Int32).toNatClampNeg), .inl (fun _ => 0))), (q6, .inl (cI, ((576 : Int32).toNatClampNeg), .inl (fun _ => 0))), (q7, .inl (cI, ((576 : Int32).toNatClampNeg), .inl (fun _ => 0))), (q8, .inl (cI, ((30 : Int32).toNatClampNeg), .inl (fun _ => 0))), (q9, .inl (cI, ((30 : Int32).toNatClampNeg), .inl (fun _ => 0)))] := hD
  refine lv_aload_n hx hb d_Mod_init_89 rfl (lv_at hl 0 rfl) ?_
  refine lv_iload_n hx hb d_Mod_init_90 rfl (lv_at hl 1 rfl) ?_
  refine lv_iconst (v := 4) hx hb d_Mod_init_91 (by decide) ?_
  obtain ⟨j_10, hj_10, hx_10⟩ := pu_bd h
  have J_10 : ∀ (j10_11 : Int32) (H : Heap) (locs : List Loc) (ls : Array Slot), j_10 = j10_11 → lv_has ls 4 [(0, .ref q_o), (1, .int a1), (2, .int a2)] → va_P (dC, dI) vwCl [(q_o, .inr (7, [.int 0, .int 0, .int 0, .ref q1, .ref q2, .ref q3, .ref q4, .ref q5, .int 0, .int 0, .int 10, .int 0, .int 0, .long 0, .long 0, .long 0, .long 0, .ref q6, .ref q7, .int 0, .int 0, .int 0, .ref q8, .ref q9])), (q1, .inl (cI, ((576 : Int32).toNatClampNeg), .inl (fun _ => 0))), (q2, .inl (cI, ((576 : Int32).toNatClampNeg), .inl (fun _ => 0))), (q3, .inl (cZ, ((576 : Int32).toNatClampNeg), .inl (fun _ => 0))), (q4, .inl (cI, ((576 : Int32).toNatClampNeg), .inl (fun _ => 0))), (q5, .inl (cI, ((576 : Int32).toNatClampNeg), .inl (fun _ => 0))), (q6, .inl (cI, ((576 : Int32).toNatClampNeg), .inl (fun _ => 0))), (q7, .inl (cI, ((576 : Int32).toNatClampNeg), .inl (fun _ => 0))), (q8, .inl (cI, ((30 : Int32).toNatClampNeg), .inl (fun _ => 0))), (q9, .inl (cI, ((30 : Int32).toNatClampNeg), .inl (fun _ => 0)))] H → va_D A [(q_o, .inr (7, [.int 0, .int 0, .int 0, .ref q1, .ref q2, .ref q3, .ref q4, .ref q5, .int 0, .int 0, .int 10, .int 0, .int 0, .long 0, .long 0, .long 0, .long 0, .ref q6, .ref q7, .int 0, .int 0, .int 0, .ref q8, .ref q9])), (q1, .inl (cI, ((576 : Int32).toNatClampNeg), .inl (fun _ => 0))), (q2, .inl (cI, ((576 : Int32).toNatClampNeg), .inl (fun _ => 0))), (q3, .inl (cZ, ((576 : Int32).toNatClampNeg), .inl (fun _ => 0))), (q4, .inl (cI, ((576 : Int32).toNatClampNeg), .inl (fun _ => 0))), (q5, .inl (cI, ((576 : Int32).toNatClampNeg), .inl (fun _ => 0))), (q6, .inl (cI, ((576 : Int32).toNatClampNeg), .inl (fun _ => 0))), (q7, .inl (cI, ((576 : Int32).toNatClampNeg), .inl (fun _ => 0))), (q8, .inl (cI, ((30 : Int32).toNatClampNeg), .inl (fun _ => 0))), (q9, .inl (cI, ((30 : Int32).toNatClampNeg), .inl (fun _ => 0)))] → va_S A s.heap H locs → W p l e rm_Mod_init s m args below meth c H locs 9 4092 Q (F0 m 111 ls [.int j10_11, .ref q_o]) := by
    intro j10_11 H locs ls he hl hP hD hS
    have h := hx_10
    rw [he] at h
    try dsimp only at h
    refine va_putF (D := (dC, dI)) (ci := 7) (v := .int j10_11) (ty := .int) (C := R_Mod) (T := F_Mod) (N := 24) hx hb hts i_Mod t_Mod t_Mod_ok n_Mod hown hK hP hD hS 0 rfl rfl 1 (by decide) (hts _ k_609) (fun _ h9 => h9) rfl hin rfl (by decide +kernel) rfl rfl (Nat.le_of_ble_eq_true rfl) d_Mod_init_111 (fun H locs hP hD hS => ?_)
    have hP : va_P (dC, dI) vwCl [(q_o, .inr (7, [.int 0, .int j10_11, .int 0, .ref q1, .ref q2, .ref q3, .ref q4, .ref q5, .int 0, .int 0, .int 10, .int 0, .int 0, .long 0, .long 0, .long 0, .long 0, .ref q6, .ref q7, .int 0, .int 0, .int 0, .ref q8, .ref q9])), (q1, .inl (cI, ((576 : Int32).toNatClampNeg), .inl (fun _ => 0))), (q2, .inl (cI, ((576 : Int32).toNatClampNeg), .inl (fun _ => 0))), (q3, .inl (cZ, ((576 : Int32).toNatClampNeg), .inl (fun _ => 0))), (q4, .inl (cI, ((576 : Int32).toNatClampNeg), .inl (fun _ => 0))), (q5, .inl (cI, ((576 : Int32).toNatClampNeg), .inl (fun _ => 0))), (q6, .inl (cI, ((576 : Int32).toNatClampNeg), .inl (fun _ => 0))), (q7, .inl (cI, ((576 : Int32).toNatClampNeg), .inl (fun _ => 0))), (q8, .inl (cI, ((30 : Int32).toNatClampNeg), .inl (fun _ => 0))), (q9, .inl (cI, ((30 : Int32).toNatClampNeg), .inl (fun _ => 0)))] H := hP
    have hD : va_D A [(q_o, .inr (7, [.int 0, .int j10_11, .int 0, .ref q1, .ref q2, .ref q3, .ref q4, .ref q5, .int 0, .int 0, .int 10, .int 0, .int 0, .long 0, .long 0, .long 0, .long 0, .ref q6, .ref q7, .int 0, .int 0, .int 0, .ref q8, .ref q9])), (q1, .inl (cI, ((576 : Int32).toNatClampNeg), .inl (fun _ => 0))), (q2, .inl (cI, ((576 : Int32).toNatClampNeg), .inl (fun _ => 0))), (q3, .inl (cZ, ((576 : Int32).toNatClampNeg), .inl (fun _ => 0))), (q4, .inl (cI, ((576 : Int32).toNatClampNeg), .inl (fun _ => 0))), (q5, .inl (cI, ((576 : Int32).toNatClampNeg), .inl (fun _ => 0))), (q6, .inl (cI, ((576 : Int32).toNatClampNeg), .inl (fun _ => 0))), (q7, .inl (cI, ((576 : Int32).toNatClampNeg), .inl (fun _ => 0))), (q8, .inl (cI, ((30 : Int32).toNatClampNeg), .inl (fun _ => 0))), (q9, .inl (cI, ((30 : Int32).toNatClampNeg), .inl (fun _ => 0)))] := hD
    refine lv_aload_n hx hb d_Mod_init_114 rfl (lv_at hl 0 rfl) ?_
    refine lv_iload_n hx hb d_Mod_init_115 rfl (lv_at hl 2 rfl) ?_
    refine lv_iconst (v := 4) hx hb d_Mod_init_116 (by decide) ?_
    obtain ⟨j_12, hj_12, hx_12⟩ := pu_bd h
    have J_12 : ∀ (j12_13 : Int32) (H : Heap) (locs : List Loc) (ls : Array Slot), j_12 = j12_13 → lv_has ls 4 [(0, .ref q_o), (1, .int a1), (2, .int a2)] → va_P (dC, dI) vwCl [(q_o, .inr (7, [.int 0, .int j10_11, .int 0, .ref q1, .ref q2, .ref q3, .ref q4, .ref q5, .int 0, .int 0, .int 10, .int 0, .int 0, .long 0, .long 0, .long 0, .long 0, .ref q6, .ref q7, .int 0, .int 0, .int 0, .ref q8, .ref q9])), (q1, .inl (cI, ((576 : Int32).toNatClampNeg), .inl (fun _ => 0))), (q2, .inl (cI, ((576 : Int32).toNatClampNeg), .inl (fun _ => 0))), (q3, .inl (cZ, ((576 : Int32).toNatClampNeg), .inl (fun _ => 0))), (q4, .inl (cI, ((576 : Int32).toNatClampNeg), .inl (fun _ => 0))), (q5, .inl (cI, ((576 : Int32).toNatClampNeg), .inl (fun _ => 0))), (q6, .inl (cI, ((576 : Int32).toNatClampNeg), .inl (fun _ => 0))), (q7, .inl (cI, ((576 : Int32).toNatClampNeg), .inl (fun _ => 0))), (q8, .inl (cI, ((30 : Int32).toNatClampNeg), .inl (fun _ => 0))), (q9, .inl (cI, ((30 : Int32).toNatClampNeg), .inl (fun _ => 0)))] H → va_D A [(q_o, .inr (7, [.int 0, .int j10_11, .int 0, .ref q1, .ref q2, .ref q3, .ref q4, .ref q5, .int 0, .int 0, .int 10, .int 0, .int 0, .long 0, .long 0, .long 0, .long 0, .ref q6, .ref q7, .int 0, .int 0, .int 0, .ref q8, .ref q9])), (q1, .inl (cI, ((576 : Int32).toNatClampNeg), .inl (fun _ => 0))), (q2, .inl (cI, ((576 : Int32).toNatClampNeg), .inl (fun _ => 0))), (q3, .inl (cZ, ((576 : Int32).toNatClampNeg), .inl (fun _ => 0))), (q4, .inl (cI, ((576 : Int32).toNatClampNeg), .inl (fun _ => 0))), (q5, .inl (cI, ((576 : Int32).toNatClampNeg), .inl (fun _ => 0))), (q6, .inl (cI, ((576 : Int32).toNatClampNeg), .inl (fun _ => 0))), (q7, .inl (cI, ((576 : Int32).toNatClampNeg), .inl (fun _ => 0))), (q8, .inl (cI, ((30 : Int32).toNatClampNeg), .inl (fun _ => 0))), (q9, .inl (cI, ((30 : Int32).toNatClampNeg), .inl (fun _ => 0)))] → va_S A s.heap H locs → W p l e rm_Mod_init s m args below meth c H locs 9 4092 Q (F0 m 136 ls [.int j12_13, .ref q_o]) := by
      intro j12_13 H locs ls he hl hP hD hS
      have h := hx_12
      rw [he] at h
      try dsimp only at h
      refine va_putF (D := (dC, dI)) (ci := 7) (v := .int j12_13) (ty := .int) (C := R_Mod) (T := F_Mod) (N := 24) hx hb hts i_Mod t_Mod t_Mod_ok n_Mod hown hK hP hD hS 0 rfl rfl 2 (by decide) (hts _ k_610) (fun _ h9 => h9) rfl hin rfl (by decide +kernel) rfl rfl (Nat.le_of_ble_eq_true rfl) d_Mod_init_136 (fun H locs hP hD hS => ?_)
      have hP : va_P (dC, dI) vwCl [(q_o, .inr (7, [.int 0, .int j10_11, .int j12_13, .ref q1, .ref q2, .ref q3, .ref q4, .ref q5, .int 0, .int 0, .int 10, .int 0, .int 0, .long 0, .long 0, .long 0, .long 0, .ref q6, .ref q7, .int 0, .int 0, .int 0, .ref q8, .ref q9])), (q1, .inl (cI, ((576 : Int32).toNatClampNeg), .inl (fun _ => 0))), (q2, .inl (cI, ((576 : Int32).toNatClampNeg), .inl (fun _ => 0))), (q3, .inl (cZ, ((576 : Int32).toNatClampNeg), .inl (fun _ => 0))), (q4, .inl (cI, ((576 : Int32).toNatClampNeg), .inl (fun _ => 0))), (q5, .inl (cI, ((576 : Int32).toNatClampNeg), .inl (fun _ => 0))), (q6, .inl (cI, ((576 : Int32).toNatClampNeg), .inl (fun _ => 0))), (q7, .inl (cI, ((576 : Int32).toNatClampNeg), .inl (fun _ => 0))), (q8, .inl (cI, ((30 : Int32).toNatClampNeg), .inl (fun _ => 0))), (q9, .inl (cI, ((30 : Int32).toNatClampNeg), .inl (fun _ => 0)))] H := hP
      have hD : va_D A [(q_o, .inr (7, [.int 0, .int j10_11, .int j12_13, .ref q1, .ref q2, .ref q3, .ref q4, .ref q5, .int 0, .int 0, .int 10, .int 0, .int 0, .long 0, .long 0, .long 0, .long 0, .ref q6, .ref q7, .int 0, .int 0, .int 0, .ref q8, .ref q9])), (q1, .inl (cI, ((576 : Int32).toNatClampNeg), .inl (fun _ => 0))), (q2, .inl (cI, ((576 : Int32).toNatClampNeg), .inl (fun _ => 0))), (q3, .inl (cZ, ((576 : Int32).toNatClampNeg), .inl (fun _ => 0))), (q4, .inl (cI, ((576 : Int32).toNatClampNeg), .inl (fun _ => 0))), (q5, .inl (cI, ((576 : Int32).toNatClampNeg), .inl (fun _ => 0))), (q6, .inl (cI, ((576 : Int32).toNatClampNeg), .inl (fun _ => 0))), (q7, .inl (cI, ((576 : Int32).toNatClampNeg), .inl (fun _ => 0))), (q8, .inl (cI, ((30 : Int32).toNatClampNeg), .inl (fun _ => 0))), (q9, .inl (cI, ((30 : Int32).toNatClampNeg), .inl (fun _ => 0)))] := hD
      refine lv_iconst (v := 0) hx hb d_Mod_init_139 (by decide) ?_
      refine lv_istore_n (lv' := [(3, .int 0), (0, .ref q_o), (1, .int a1), (2, .int a2)]) hx hb d_Mod_init_140 rfl hl (by decide) rfl (fun ls hl => ?_)
      obtain ⟨e_14, he_14, hx_14⟩ := pu_bd h
      obtain ⟨n_14, hn_14⟩ := pu_loop_it he_14
      have K_14 : ∀ (y3_19 : Int32) (z20 : Nat → Int32) (z21 : Nat → Int32) (z22 : Nat → Int32) (H : Heap) (locs : List Loc) (ls : Array Slot), e_14 = (y3_19, z20, z21, z22) → lv_has ls 4 [(3, .int y3_19), (0, .ref q_o), (1, .int a1), (2, .int a2)] → va_P (dC, dI) vwCl [(q_o, .inr (7, [.int 0, .int j10_11, .int j12_13, .ref q1, .ref q2, .ref q3, .ref q4, .ref q5, .int 0, .int 0, .int 10, .int 0, .int 0, .long 0, .long 0, .long 0, .long 0, .ref q6, .ref q7, .int 0, .int 0, .int 0, .ref q8, .ref q9])), (q1, .inl (cI, ((576 : Int32).toNatClampNeg), .inl (fun _ => 0))), (q2, .inl (cI, ((576 : Int32).toNatClampNeg), .inl (fun _ => 0))), (q3, .inl (cZ, ((576 : Int32).toNatClampNeg), .inl (fun _ => 0))), (q4, .inl (cI, ((576 : Int32).toNatClampNeg), .inl z20)), (q5, .inl (cI, ((576 : Int32).toNatClampNeg), .inl z21)), (q6, .inl (cI, ((576 : Int32).toNatClampNeg), .inl z22)), (q7, .inl (cI, ((576 : Int32).toNatClampNeg), .inl (fun _ => 0))), (q8, .inl (cI, ((30 : Int32).toNatClampNeg), .inl (fun _ => 0))), (q9, .inl (cI, ((30 : Int32).toNatClampNeg), .inl (fun _ => 0)))] H → va_D A [(q_o, .inr (7, [.int 0, .int j10_11, .int j12_13, .ref q1, .ref q2, .ref q3, .ref q4, .ref q5, .int 0, .int 0, .int 10, .int 0, .int 0, .long 0, .long 0, .long 0, .long 0, .ref q6, .ref q7, .int 0, .int 0, .int 0, .ref q8, .ref q9])), (q1, .inl (cI, ((576 : Int32).toNatClampNeg), .inl (fun _ => 0))), (q2, .inl (cI, ((576 : Int32).toNatClampNeg), .inl (fun _ => 0))), (q3, .inl (cZ, ((576 : Int32).toNatClampNeg), .inl (fun _ => 0))), (q4, .inl (cI, ((576 : Int32).toNatClampNeg), .inl z20)), (q5, .inl (cI, ((576 : Int32).toNatClampNeg), .inl z21)), (q6, .inl (cI, ((576 : Int32).toNatClampNeg), .inl z22)), (q7, .inl (cI, ((576 : Int32).toNatClampNeg), .inl (fun _ => 0))), (q8, .inl (cI, ((30 : Int32).toNatClampNeg), .inl (fun _ => 0))), (q9, .inl (cI, ((30 : Int32).toNatClampNeg), .inl (fun _ => 0)))] → va_S A s.heap H locs → W p l e rm_Mod_init s m args below meth c H locs 9 4092 Q (F0 m 177 ls []) := by
        intro y3_19 z20 z21 z22 H locs ls he hl hP hD hS
        have h := hx_14
        rw [he] at h
        try dsimp only at h
        cases h
        refine W.widen (k := 9) (n := 4092) (Nat.le_of_ble_eq_true rfl) (Nat.le_of_ble_eq_true rfl) ?_
        exact RT 177 ls H locs _ d_Mod_init_177 (Or.inl ⟨rfl, rfl⟩) ⟨q1, q2, q3, q4, q5, q6, q7, q8, q9, rfl⟩ (hP.sub [0, 1, 2, 3, 4, 5, 6, 7, 8, 9] rfl) (hD.sub [0, 1, 2, 3, 4, 5, 6, 7, 8, 9] (by decide) rfl) hS
      have L_14 : ∀ (n : Nat) (x3_15 : Int32) (new35_f_16 : Nat → Int32) (new44_f_17 : Nat → Int32) (new59_f_18 : Nat → Int32) (H : Heap) (locs : List Loc) (ls : Array Slot), pu_it (p_Mod_init_L14) n (x3_15, new35_f_16, new44_f_17, new59_f_18) = some e_14 → lv_has ls 4 [(3, .int x3_15), (0, .ref q_o), (1, .int a1), (2, .int a2)] → va_P (dC, dI) vwCl [(q_o, .inr (7, [.int 0, .int j10_11, .int j12_13, .ref q1, .ref q2, .ref q3, .ref q4, .ref q5, .int 0, .int 0, .int 10, .int 0, .int 0, .long 0, .long 0, .long 0, .long 0, .ref q6, .ref q7, .int 0, .int 0, .int 0, .ref q8, .ref q9])), (q1, .inl (cI, ((576 : Int32).toNatClampNeg), .inl (fun _ => 0))), (q2, .inl (cI, ((576 : Int32).toNatClampNeg), .inl (fun _ => 0))), (q3, .inl (cZ, ((576 : Int32).toNatClampNeg), .inl (fun _ => 0))), (q4, .inl (cI, ((576 : Int32).toNatClampNeg), .inl new35_f_16)), (q5, .inl (cI, ((576 : Int32).toNatClampNeg), .inl new44_f_17)), (q6, .inl (cI, ((576 : Int32).toNatClampNeg), .inl new59_f_18)), (q7, .inl (cI, ((576 : Int32).toNatClampNeg), .inl (fun _ => 0))), (q8, .inl (cI, ((30 : Int32).toNatClampNeg), .inl (fun _ => 0))), (q9, .inl (cI, ((30 : Int32).toNatClampNeg), .inl (fun _ => 0)))] H → va_D A [(q_o, .inr (7, [.int 0, .int j10_11, .int j12_13, .ref q1, .ref q2, .ref q3, .ref q4, .ref q5, .int 0, .int 0, .int 10, .int 0, .int 0, .long 0, .long 0, .long 0, .long 0, .ref q6, .ref q7, .int 0, .int 0, .int 0, .ref q8, .ref q9])), (q1, .inl (cI, ((576 : Int32).toNatClampNeg), .inl (fun _ => 0))), (q2, .inl (cI, ((576 : Int32).toNatClampNeg), .inl (fun _ => 0))), (q3, .inl (cZ, ((576 : Int32).toNatClampNeg), .inl (fun _ => 0))), (q4, .inl (cI, ((576 : Int32).toNatClampNeg), .inl new35_f_16)), (q5, .inl (cI, ((576 : Int32).toNatClampNeg), .inl new44_f_17)), (q6, .inl (cI, ((576 : Int32).toNatClampNeg), .inl new59_f_18)), (q7, .inl (cI, ((576 : Int32).toNatClampNeg), .inl (fun _ => 0))), (q8, .inl (cI, ((30 : Int32).toNatClampNeg), .inl (fun _ => 0))), (q9, .inl (cI, ((30 : Int32).toNatClampNeg), .inl (fun _ => 0)))] → va_S A s.heap H locs → W p l e rm_Mod_init s m args below meth c H locs 9 4092 Q (F0 m 141 ls []) := by
        intro n
        induction n with
        | zero => intro x3_15 new35_f_16 new44_f_17 new59_f_18 H locs ls hn; exact (pu_it_0 hn).elim
        | succ n ih =>
          intro x3_15 new35_f_16 new44_f_17 new59_f_18 H locs ls hn hl hP hD hS
          obtain ⟨r_14, h, hr_14⟩ := pu_it_succ hn
          unfold p_Mod_init_L14 at h
          try dsimp only at h
          refine lv_iload_n hx hb d_Mod_init_141 rfl (lv_at hl 0 rfl) ?_
          refine lv_sipush (v := 576) hx hb d_Mod_init_142 (by decide) ?_
          refine lv_icmp_ge (tgt := 177) hx hb d_Mod_init_145 (by decide) (fun hc => ?_) (fun hc => ?_)
          · have h := pu_t hc h
            cases h
            exact K_14 x3_15 new35_f_16 new44_f_17 new59_f_18 H locs ls hr_14.symm (lv_sub hl [0, 1, 2, 3] rfl) (hP.sub [0, 1, 2, 3, 4, 5, 6, 7, 8, 9] rfl) (hD.sub [0, 1, 2, 3, 4, 5, 6, 7, 8, 9] (by decide) rfl) hS
          · have h := pu_f hc h
            refine lv_aload_n hx hb d_Mod_init_148 rfl (lv_at hl 1 rfl) ?_
            refine va_get (D := (dC, dI)) (ci := 7) (v := .ref q4) (C := R_Mod) (T := F_Mod) (N := 24) hx hb hts i_Mod hown hK hP 0 rfl rfl 6 (by decide) (hts _ k_614) (fun _ h9 => h9) rfl d_Mod_init_149 ?_
            refine lv_iload_n hx hb d_Mod_init_152 rfl (lv_at hl 0 rfl) ?_
            refine lv_sipush (v := 999) hx hb d_Mod_init_153 (by decide) ?_
            obtain ⟨hg, h⟩ := pu_g h
            refine va_iast hx hb hK hP hD hS 4 0 rfl rfl hg d_Mod_init_156 (fun H locs hP hD hS => ?_)
            have hP : va_P (dC, dI) vwCl [(q_o, .inr (7, [.int 0, .int j10_11, .int j12_13, .ref q1, .ref q2, .ref q3, .ref q4, .ref q5, .int 0, .int 0, .int 10, .int 0, .int 0, .long 0, .long 0, .long 0, .long 0, .ref q6, .ref q7, .int 0, .int 0, .int 0, .ref q8, .ref q9])), (q1, .inl (cI, ((576 : Int32).toNatClampNeg), .inl (fun _ => 0))), (q2, .inl (cI, ((576 : Int32).toNatClampNeg), .inl (fun _ => 0))), (q3, .inl (cZ, ((576 : Int32).toNatClampNeg), .inl (fun _ => 0))), (q4, .inl (cI, ((576 : Int32).toNatClampNeg), .inl (upd new35_f_16 x3_15.toNatClampNeg 999))), (q5, .inl (cI, ((576 : Int32).toNatClampNeg), .inl new44_f_17)), (q6, .inl (cI, ((576 : Int32).toNatClampNeg), .inl new59_f_18)), (q7, .inl (cI, ((576 : Int32).toNatClampNeg), .inl (fun _ => 0))), (q8, .inl (cI, ((30 : Int32).toNatClampNeg), .inl (fun _ => 0))), (q9, .inl (cI, ((30 : Int32).toNatClampNeg), .inl (fun _ => 0)))] H := hP
            have hD : va_D A [(q_o, .inr (7, [.int 0, .int j10_11, .int j12_13, .ref q1, .ref q2, .ref q3, .ref q4, .ref q5, .int 0, .int 0, .int 10, .int 0, .int 0, .long 0, .long 0, .long 0, .long 0, .ref q6, .ref q7, .int 0, .int 0, .int 0, .ref q8, .ref q9])), (q1, .inl (cI, ((576 : Int32).toNatClampNeg), .inl (fun _ => 0))), (q2, .inl (cI, ((576 : Int32).toNatClampNeg), .inl (fun _ => 0))), (q3, .inl (cZ, ((576 : Int32).toNatClampNeg), .inl (fun _ => 0))), (q4, .inl (cI, ((576 : Int32).toNatClampNeg), .inl (upd new35_f_16 x3_15.toNatClampNeg 999))), (q5, .inl (cI, ((576 : Int32).toNatClampNeg), .inl new44_f_17)), (q6, .inl (cI, ((576 : Int32).toNatClampNeg), .inl new59_f_18)), (q7, .inl (cI, ((576 : Int32).toNatClampNeg), .inl (fun _ => 0))), (q8, .inl (cI, ((30 : Int32).toNatClampNeg), .inl (fun _ => 0))), (q9, .inl (cI, ((30 : Int32).toNatClampNeg), .inl (fun _ => 0)))] := hD
            refine lv_aload_n hx hb d_Mod_init_157 rfl (lv_at hl 1 rfl) ?_
            refine va_get (D := (dC, dI)) (ci := 7) (v := .ref q5) (C := R_Mod) (T := F_Mod) (N := 24) hx hb hts i_Mod hown hK hP 0 rfl rfl 7 (by decide) (hts _ k_615) (fun _ h9 => h9) rfl d_Mod_init_158 ?_
            refine lv_iload_n hx hb d_Mod_init_161 rfl (lv_at hl 0 rfl) ?_
            refine lv_iconst (v := (-1)) hx hb d_Mod_init_162 (by decide) ?_
            obtain ⟨hg, h⟩ := pu_g h
            refine va_iast hx hb hK hP hD hS 5 0 rfl rfl hg d_Mod_init_163 (fun H locs hP hD hS => ?_)
            have hP : va_P (dC, dI) vwCl [(q_o, .inr (7, [.int 0, .int j10_11, .int j12_13, .ref q1, .ref q2, .ref q3, .ref q4, .ref q5, .int 0, .int 0, .int 10, .int 0, .int 0, .long 0, .long 0, .long 0, .long 0, .ref q6, .ref q7, .int 0, .int 0, .int 0, .ref q8, .ref q9])), (q1, .inl (cI, ((576 : Int32).toNatClampNeg), .inl (fun _ => 0))), (q2, .inl (cI, ((576 : Int32).toNatClampNeg), .inl (fun _ => 0))), (q3, .inl (cZ, ((576 : Int32).toNatClampNeg), .inl (fun _ => 0))), (q4, .inl (cI, ((576 : Int32).toNatClampNeg), .inl (upd new35_f_16 x3_15.toNatClampNeg 999))), (q5, .inl (cI, ((576 : Int32).toNatClampNeg), .inl (upd new44_f_17 x3_15.toNatClampNeg (-1)))), (q6, .inl (cI, ((576 : Int32).toNatClampNeg), .inl new59_f_18)), (q7, .inl (cI, ((576 : Int32).toNatClampNeg), .inl (fun _ => 0))), (q8, .inl (cI, ((30 : Int32).toNatClampNeg), .inl (fun _ => 0))), (q9, .inl (cI, ((30 : Int32).toNatClampNeg), .inl (fun _ => 0)))] H := hP
            have hD : va_D A [(q_o, .inr (7, [.int 0, .int j10_11, .int j12_13, .ref q1, .ref q2, .ref q3, .ref q4, .ref q5, .int 0, .int 0, .int 10, .int 0, .int 0, .long 0, .long 0, .long 0, .long 0, .ref q6, .ref q7, .int 0, .int 0, .int 0, .ref q8, .ref q9])), (q1, .inl (cI, ((576 : Int32).toNatClampNeg), .inl (fun _ => 0))), (q2, .inl (cI, ((576 : Int32).toNatClampNeg), .inl (fun _ => 0))), (q3, .inl (cZ, ((576 : Int32).toNatClampNeg), .inl (fun _ => 0))), (q4, .inl (cI, ((576 : Int32).toNatClampNeg), .inl (upd new35_f_16 x3_15.toNatClampNeg 999))), (q5, .inl (cI, ((576 : Int32).toNatClampNeg), .inl (upd new44_f_17 x3_15.toNatClampNeg (-1)))), (q6, .inl (cI, ((576 : Int32).toNatClampNeg), .inl new59_f_18)), (q7, .inl (cI, ((576 : Int32).toNatClampNeg), .inl (fun _ => 0))), (q8, .inl (cI, ((30 : Int32).toNatClampNeg), .inl (fun _ => 0))), (q9, .inl (cI, ((30 : Int32).toNatClampNeg), .inl (fun _ => 0)))] := hD
            refine lv_aload_n hx hb d_Mod_init_164 rfl (lv_at hl 1 rfl) ?_
            refine va_get (D := (dC, dI)) (ci := 7) (v := .ref q6) (C := R_Mod) (T := F_Mod) (N := 24) hx hb hts i_Mod hown hK hP 0 rfl rfl 17 (by decide) (hts _ k_625) (fun _ h9 => h9) rfl d_Mod_init_165 ?_
            refine lv_iload_n hx hb d_Mod_init_168 rfl (lv_at hl 0 rfl) ?_
            refine lv_iconst (v := (-1)) hx hb d_Mod_init_169 (by decide) ?_
            obtain ⟨hg, h⟩ := pu_g h
            refine va_iast hx hb hK hP hD hS 6 0 rfl rfl hg d_Mod_init_170 (fun H locs hP hD hS => ?_)
            have hP : va_P (dC, dI) vwCl [(q_o, .inr (7, [.int 0, .int j10_11, .int j12_13, .ref q1, .ref q2, .ref q3, .ref q4, .ref q5, .int 0, .int 0, .int 10, .int 0, .int 0, .long 0, .long 0, .long 0, .long 0, .ref q6, .ref q7, .int 0, .int 0, .int 0, .ref q8, .ref q9])), (q1, .inl (cI, ((576 : Int32).toNatClampNeg), .inl (fun _ => 0))), (q2, .inl (cI, ((576 : Int32).toNatClampNeg), .inl (fun _ => 0))), (q3, .inl (cZ, ((576 : Int32).toNatClampNeg), .inl (fun _ => 0))), (q4, .inl (cI, ((576 : Int32).toNatClampNeg), .inl (upd new35_f_16 x3_15.toNatClampNeg 999))), (q5, .inl (cI, ((576 : Int32).toNatClampNeg), .inl (upd new44_f_17 x3_15.toNatClampNeg (-1)))), (q6, .inl (cI, ((576 : Int32).toNatClampNeg), .inl (upd new59_f_18 x3_15.toNatClampNeg (-1)))), (q7, .inl (cI, ((576 : Int32).toNatClampNeg), .inl (fun _ => 0))), (q8, .inl (cI, ((30 : Int32).toNatClampNeg), .inl (fun _ => 0))), (q9, .inl (cI, ((30 : Int32).toNatClampNeg), .inl (fun _ => 0)))] H := hP
            have hD : va_D A [(q_o, .inr (7, [.int 0, .int j10_11, .int j12_13, .ref q1, .ref q2, .ref q3, .ref q4, .ref q5, .int 0, .int 0, .int 10, .int 0, .int 0, .long 0, .long 0, .long 0, .long 0, .ref q6, .ref q7, .int 0, .int 0, .int 0, .ref q8, .ref q9])), (q1, .inl (cI, ((576 : Int32).toNatClampNeg), .inl (fun _ => 0))), (q2, .inl (cI, ((576 : Int32).toNatClampNeg), .inl (fun _ => 0))), (q3, .inl (cZ, ((576 : Int32).toNatClampNeg), .inl (fun _ => 0))), (q4, .inl (cI, ((576 : Int32).toNatClampNeg), .inl (upd new35_f_16 x3_15.toNatClampNeg 999))), (q5, .inl (cI, ((576 : Int32).toNatClampNeg), .inl (upd new44_f_17 x3_15.toNatClampNeg (-1)))), (q6, .inl (cI, ((576 : Int32).toNatClampNeg), .inl (upd new59_f_18 x3_15.toNatClampNeg (-1)))), (q7, .inl (cI, ((576 : Int32).toNatClampNeg), .inl (fun _ => 0))), (q8, .inl (cI, ((30 : Int32).toNatClampNeg), .inl (fun _ => 0))), (q9, .inl (cI, ((30 : Int32).toNatClampNeg), .inl (fun _ => 0)))] := hD
            refine lv_iinc (v := (x3_15 + 1)) (lv' := [(3, .int (x3_15 + 1)), (0, .ref q_o), (1, .int a1), (2, .int a2)]) hx hb d_Mod_init_171 hl (k := 0) rfl rfl (by decide) rfl (fun ls hl => ?_)
            refine lv_goto (tgt := 141) hx hb d_Mod_init_174 (by decide) ?_
            cases h
            exact ih (x3_15 + 1) (upd new35_f_16 x3_15.toNatClampNeg 999) (upd new44_f_17 x3_15.toNatClampNeg (-1)) (upd new59_f_18 x3_15.toNatClampNeg (-1)) H locs ls hr_14 (lv_sub hl [0, 1, 2, 3] rfl) (hP.sub [0, 1, 2, 3, 4, 5, 6, 7, 8, 9] rfl) (hD.sub [0, 1, 2, 3, 4, 5, 6, 7, 8, 9] (by decide) rfl) hS
      exact L_14 n_14 0 (fun _ => 0) (fun _ => 0) (fun _ => 0) H locs ls hn_14 hl hP hD hS
    have h := hj_12
    refine lv_icmp_ge (tgt := 124) hx hb d_Mod_init_117 (by decide) (fun hc => ?_) (fun hc => ?_)
    · have h := pu_t hc h
      refine lv_iload_n hx hb d_Mod_init_124 rfl (lv_at hl 2 rfl) ?_
      refine lv_bipush (v := 24) hx hb d_Mod_init_125 (by decide) ?_
      refine lv_icmp_le (tgt := 135) hx hb d_Mod_init_127 (by decide) (fun hc => ?_) (fun hc => ?_)
      · have h := pu_t hc h
        refine lv_iload_n hx hb d_Mod_init_135 rfl (lv_at hl 2 rfl) ?_
        exact J_12 a2 H locs ls (Option.some.inj h).symm (lv_sub hl [0, 1, 2] rfl) (hP.sub [0, 1, 2, 3, 4, 5, 6, 7, 8, 9] rfl) (hD.sub [0, 1, 2, 3, 4, 5, 6, 7, 8, 9] (by decide) rfl) hS
      · have h := pu_f hc h
        refine lv_bipush (v := 24) hx hb d_Mod_init_130 (by decide) ?_
        refine lv_goto (tgt := 136) hx hb d_Mod_init_132 (by decide) ?_
        exact J_12 24 H locs ls (Option.some.inj h).symm (lv_sub hl [0, 1, 2] rfl) (hP.sub [0, 1, 2, 3, 4, 5, 6, 7, 8, 9] rfl) (hD.sub [0, 1, 2, 3, 4, 5, 6, 7, 8, 9] (by decide) rfl) hS
    · have h := pu_f hc h
      refine lv_iconst (v := 4) hx hb d_Mod_init_120 (by decide) ?_
      refine lv_goto (tgt := 136) hx hb d_Mod_init_121 (by decide) ?_
      exact J_12 4 H locs ls (Option.some.inj h).symm (lv_sub hl [0, 1, 2] rfl) (hP.sub [0, 1, 2, 3, 4, 5, 6, 7, 8, 9] rfl) (hD.sub [0, 1, 2, 3, 4, 5, 6, 7, 8, 9] (by decide) rfl) hS
  have h := hj_10
  refine lv_icmp_ge (tgt := 99) hx hb d_Mod_init_92 (by decide) (fun hc => ?_) (fun hc => ?_)
  · have h := pu_t hc h
    refine lv_iload_n hx hb d_Mod_init_99 rfl (lv_at hl 1 rfl) ?_
    refine lv_bipush (v := 24) hx hb d_Mod_init_100 (by decide) ?_
    refine lv_icmp_le (tgt := 110) hx hb d_Mod_init_102 (by decide) (fun hc => ?_) (fun hc => ?_)
    · have h := pu_t hc h
      refine lv_iload_n hx hb d_Mod_init_110 rfl (lv_at hl 1 rfl) ?_
      exact J_10 a1 H locs ls (Option.some.inj h).symm (lv_sub hl [0, 1, 2] rfl) (hP.sub [0, 1, 2, 3, 4, 5, 6, 7, 8, 9] rfl) (hD.sub [0, 1, 2, 3, 4, 5, 6, 7, 8, 9] (by decide) rfl) hS
    · have h := pu_f hc h
      refine lv_bipush (v := 24) hx hb d_Mod_init_105 (by decide) ?_
      refine lv_goto (tgt := 111) hx hb d_Mod_init_107 (by decide) ?_
      exact J_10 24 H locs ls (Option.some.inj h).symm (lv_sub hl [0, 1, 2] rfl) (hP.sub [0, 1, 2, 3, 4, 5, 6, 7, 8, 9] rfl) (hD.sub [0, 1, 2, 3, 4, 5, 6, 7, 8, 9] (by decide) rfl) hS
  · have h := pu_f hc h
    refine lv_iconst (v := 4) hx hb d_Mod_init_95 (by decide) ?_
    refine lv_goto (tgt := 111) hx hb d_Mod_init_96 (by decide) ?_
    exact J_10 4 H locs ls (Option.some.inj h).symm (lv_sub hl [0, 1, 2] rfl) (hP.sub [0, 1, 2, 3, 4, 5, 6, 7, 8, 9] rfl) (hD.sub [0, 1, 2, 3, 4, 5, 6, 7, 8, 9] (by decide) rfl) hS

noncomputable def p_Mod_thrown (o_thrown : Int32) (o_width : Int32) (o_height : Int32) (o_repeats : Int32) (o_wide : Int32) (o_floor : Int32) (o_across : Int32) (o_down : Int32) (o_sum : Int64) (o_many : Int64) (o_above : Int64) (o_below : Int64) (o_marked : Int32) (o_spots : Int32) (o_days : Int32) : Option (Int32) :=
  some o_thrown
set_option maxHeartbeats 4000000 in
set_option maxRecDepth 100000 in
theorem c_Mod_thrown (l : Launch) (dC : Nat → ClassId) (dI : Nat → Nat → Nat) (cI cJ cZ : ClassId) (q_o q_o_former q_o_later q_o_charts q_o_lows q_o_highs q_o_firsts q_o_changes q_o_dates q_o_kept : Nat) (o_thrown : Int32) (o_width : Int32) (o_height : Int32) (o_repeats : Int32) (o_wide : Int32) (o_floor : Int32) (o_across : Int32) (o_down : Int32) (o_sum : Int64) (o_many : Int64) (o_above : Int64) (o_below : Int64) (o_marked : Int32) (o_spots : Int32) (o_days : Int32) (r0 : Int32) (h : p_Mod_thrown o_thrown o_width o_height o_repeats o_wide o_floor o_across o_down o_sum o_many o_above o_below o_marked o_spots o_days = some r0) : ct l y_Mod_thrown w_Mod_thrown rm_Mod_thrown (dC, dI) [(cI, .int), (cJ, .long), (cZ, .boolean)] [.ref q_o] [(q_o, .inr (7, [.int o_thrown, .int o_width, .int o_height, .ref q_o_former, .ref q_o_later, .ref q_o_charts, .ref q_o_lows, .ref q_o_highs, .int o_repeats, .int o_wide, .int o_floor, .int o_across, .int o_down, .long o_sum, .long o_many, .long o_above, .long o_below, .ref q_o_firsts, .ref q_o_changes, .int o_marked, .int o_spots, .int o_days, .ref q_o_dates, .ref q_o_kept]))] (fun w => w = [(q_o, .inr (7, [.int o_thrown, .int o_width, .int o_height, .ref q_o_former, .ref q_o_later, .ref q_o_charts, .ref q_o_lows, .ref q_o_highs, .int o_repeats, .int o_wide, .int o_floor, .int o_across, .int o_down, .long o_sum, .long o_many, .long o_above, .long o_below, .ref q_o_firsts, .ref q_o_changes, .int o_marked, .int o_spots, .int o_days, .ref q_o_dates, .ref q_o_kept]))]) (some (.int r0)) := by
  refine ct_of (cc := b_Mod_thrown) (maxL := 1) (ret := (some .int)) (lv := [(0, .ref q_o)]) (by decide) rfl rfl rfl ?_
  intro p e s m args below meth c A Q H locs hx hb hml hown hts hin hA hK hN hP hD hS RT ls hl
  unfold p_Mod_thrown at h
  refine lv_aload_n hx hb d_Mod_thrown_0 rfl (lv_at hl 0 rfl) ?_
  refine va_get (D := (dC, dI)) (ci := 7) (v := .int o_thrown) (C := R_Mod) (T := F_Mod) (N := 24) hx hb hts i_Mod hown hK hP 0 rfl rfl 0 (by decide) (hts _ k_608) (fun _ h9 => h9) rfl d_Mod_thrown_1 ?_
  cases h
  refine W.widen (k := 0) (n := 0) (Nat.le_of_ble_eq_true rfl) (Nat.le_of_ble_eq_true rfl) ?_
  exact RT 4 ls H locs _ d_Mod_thrown_4 (Or.inr (Or.inl ⟨rfl, _, rfl⟩)) rfl (hP.sub [0] rfl) (hD.sub [0] (by decide) rfl) hS

noncomputable def p_Mod_goes (a1 : Int32) (a2 : Int32) (a3 : Int32) (o_thrown : Int32) (o_width : Int32) (o_height : Int32) (o_repeats : Int32) (o_wide : Int32) (o_floor : Int32) (o_across : Int32) (o_down : Int32) (o_sum : Int64) (o_many : Int64) (o_above : Int64) (o_below : Int64) (o_marked : Int32) (o_spots : Int32) (o_days : Int32) : Option (Int32 × Int32) :=
  ((if a1 = 0 then some 1 else (if a2 = 0 then some 2 else (if a3 = 0 then some 3 else some 0)))).bind (fun (j1_2 : Int32) => (if j1_2 = 0 then some (1, j1_2) else some (0, j1_2)))
set_option maxHeartbeats 4000000 in
set_option maxRecDepth 100000 in
theorem c_Mod_goes (l : Launch) (dC : Nat → ClassId) (dI : Nat → Nat → Nat) (cI cJ cZ : ClassId) (q_o q_o_former q_o_later q_o_charts q_o_lows q_o_highs q_o_firsts q_o_changes q_o_dates q_o_kept : Nat) (a1 : Int32) (a2 : Int32) (a3 : Int32) (o_thrown : Int32) (o_width : Int32) (o_height : Int32) (o_repeats : Int32) (o_wide : Int32) (o_floor : Int32) (o_across : Int32) (o_down : Int32) (o_sum : Int64) (o_many : Int64) (o_above : Int64) (o_below : Int64) (o_marked : Int32) (o_spots : Int32) (o_days : Int32) (r0 : Int32) (r1 : Int32) (h : p_Mod_goes a1 a2 a3 o_thrown o_width o_height o_repeats o_wide o_floor o_across o_down o_sum o_many o_above o_below o_marked o_spots o_days = some (r0, r1)) : ct l y_Mod_goes w_Mod_goes rm_Mod_goes (dC, dI) [(cI, .int), (cJ, .long), (cZ, .boolean)] [.ref q_o, .int a1, .int a2, .int a3] [(q_o, .inr (7, [.int o_thrown, .int o_width, .int o_height, .ref q_o_former, .ref q_o_later, .ref q_o_charts, .ref q_o_lows, .ref q_o_highs, .int o_repeats, .int o_wide, .int o_floor, .int o_across, .int o_down, .long o_sum, .long o_many, .long o_above, .long o_below, .ref q_o_firsts, .ref q_o_changes, .int o_marked, .int o_spots, .int o_days, .ref q_o_dates, .ref q_o_kept]))] (fun w => w = [(q_o, .inr (7, [.int r1, .int o_width, .int o_height, .ref q_o_former, .ref q_o_later, .ref q_o_charts, .ref q_o_lows, .ref q_o_highs, .int o_repeats, .int o_wide, .int o_floor, .int o_across, .int o_down, .long o_sum, .long o_many, .long o_above, .long o_below, .ref q_o_firsts, .ref q_o_changes, .int o_marked, .int o_spots, .int o_days, .ref q_o_dates, .ref q_o_kept]))]) (some (.int r0)) := by
  refine ct_of (cc := b_Mod_goes) (maxL := 4) (ret := (some .boolean)) (lv := [(0, .ref q_o), (1, .int a1), (2, .int a2), (3, .int a3)]) (by decide) rfl rfl rfl ?_
  intro p e s m args below meth c A Q H locs hx hb hml hown hts hin hA hK hN hP hD hS RT ls hl
  unfold p_Mod_goes at h
  refine lv_aload_n hx hb d_Mod_goes_0 rfl (lv_at hl 0 rfl) ?_
  refine lv_iload_n hx hb d_Mod_goes_1 rfl (lv_at hl 1 rfl) ?_
  obtain ⟨j_1, hj_1, hx_1⟩ := pu_bd h
  have J_1 : ∀ (j1_2 : Int32) (H : Heap) (locs : List Loc) (ls : Array Slot), j_1 = j1_2 → lv_has ls 4 [(0, .ref q_o), (1, .int a1), (2, .int a2), (3, .int a3)] → va_P (dC, dI) vwCl [(q_o, .inr (7, [.int o_thrown, .int o_width, .int o_height, .ref q_o_former, .ref q_o_later, .ref q_o_charts, .ref q_o_lows, .ref q_o_highs, .int o_repeats, .int o_wide, .int o_floor, .int o_across, .int o_down, .long o_sum, .long o_many, .long o_above, .long o_below, .ref q_o_firsts, .ref q_o_changes, .int o_marked, .int o_spots, .int o_days, .ref q_o_dates, .ref q_o_kept]))] H → va_D A [(q_o, .inr (7, [.int o_thrown, .int o_width, .int o_height, .ref q_o_former, .ref q_o_later, .ref q_o_charts, .ref q_o_lows, .ref q_o_highs, .int o_repeats, .int o_wide, .int o_floor, .int o_across, .int o_down, .long o_sum, .long o_many, .long o_above, .long o_below, .ref q_o_firsts, .ref q_o_changes, .int o_marked, .int o_spots, .int o_days, .ref q_o_dates, .ref q_o_kept]))] → va_S A s.heap H locs → W p l e rm_Mod_goes s m args below meth c H locs 0 0 Q (F0 m 26 ls [.int j1_2, .ref q_o]) := by
    intro j1_2 H locs ls he hl hP hD hS
    have h := hx_1
    rw [he] at h
    try dsimp only at h
    refine va_put (D := (dC, dI)) (ci := 7) (v := .int j1_2) (ty := .int) (C := R_Mod) (T := F_Mod) (N := 24) hx hb hts i_Mod t_Mod t_Mod_ok n_Mod hown hK hP hD hS 0 rfl rfl 0 (by decide) (hts _ k_608) (fun _ h9 => h9) rfl (by decide +kernel) rfl rfl (Nat.le_of_ble_eq_true rfl) d_Mod_goes_26 (fun H locs hP hD hS => ?_)
    have hP : va_P (dC, dI) vwCl [(q_o, .inr (7, [.int j1_2, .int o_width, .int o_height, .ref q_o_former, .ref q_o_later, .ref q_o_charts, .ref q_o_lows, .ref q_o_highs, .int o_repeats, .int o_wide, .int o_floor, .int o_across, .int o_down, .long o_sum, .long o_many, .long o_above, .long o_below, .ref q_o_firsts, .ref q_o_changes, .int o_marked, .int o_spots, .int o_days, .ref q_o_dates, .ref q_o_kept]))] H := hP
    have hD : va_D A [(q_o, .inr (7, [.int j1_2, .int o_width, .int o_height, .ref q_o_former, .ref q_o_later, .ref q_o_charts, .ref q_o_lows, .ref q_o_highs, .int o_repeats, .int o_wide, .int o_floor, .int o_across, .int o_down, .long o_sum, .long o_many, .long o_above, .long o_below, .ref q_o_firsts, .ref q_o_changes, .int o_marked, .int o_spots, .int o_days, .ref q_o_dates, .ref q_o_kept]))] := hD
    refine lv_aload_n hx hb d_Mod_goes_29 rfl (lv_at hl 0 rfl) ?_
    refine va_get (D := (dC, dI)) (ci := 7) (v := .int j1_2) (C := R_Mod) (T := F_Mod) (N := 24) hx hb hts i_Mod hown hK hP 0 rfl rfl 0 (by decide) (hts _ k_608) (fun _ h9 => h9) rfl d_Mod_goes_30 ?_
    refine lv_if_ne (tgt := 40) hx hb d_Mod_goes_33 (by decide) (fun hc => ?_) (fun hc => ?_)
    · have h := pu_f hc h
      refine lv_iconst (v := 0) hx hb d_Mod_goes_40 (by decide) ?_
      cases h
      refine W.widen (k := 0) (n := 0) (Nat.le_of_ble_eq_true rfl) (Nat.le_of_ble_eq_true rfl) ?_
      exact RT 41 ls H locs _ d_Mod_goes_41 (Or.inr (Or.inr (Or.inr ⟨rfl, _, rfl, rfl⟩))) rfl (hP.sub [0] rfl) (hD.sub [0] (by decide) rfl) hS
    · have h := pu_t hc h
      refine lv_iconst (v := 1) hx hb d_Mod_goes_36 (by decide) ?_
      refine lv_goto (tgt := 41) hx hb d_Mod_goes_37 (by decide) ?_
      cases h
      refine W.widen (k := 0) (n := 0) (Nat.le_of_ble_eq_true rfl) (Nat.le_of_ble_eq_true rfl) ?_
      exact RT 41 ls H locs _ d_Mod_goes_41 (Or.inr (Or.inr (Or.inr ⟨rfl, _, rfl, rfl⟩))) rfl (hP.sub [0] rfl) (hD.sub [0] (by decide) rfl) hS
  have h := hj_1
  refine lv_if_ne (tgt := 9) hx hb d_Mod_goes_2 (by decide) (fun hc => ?_) (fun hc => ?_)
  · have h := pu_f hc h
    refine lv_iload_n hx hb d_Mod_goes_9 rfl (lv_at hl 2 rfl) ?_
    refine lv_if_ne (tgt := 17) hx hb d_Mod_goes_10 (by decide) (fun hc => ?_) (fun hc => ?_)
    · have h := pu_f hc h
      refine lv_iload_n hx hb d_Mod_goes_17 rfl (lv_at hl 3 rfl) ?_
      refine lv_if_ne (tgt := 25) hx hb d_Mod_goes_18 (by decide) (fun hc => ?_) (fun hc => ?_)
      · have h := pu_f hc h
        refine lv_iconst (v := 0) hx hb d_Mod_goes_25 (by decide) ?_
        exact J_1 0 H locs ls (Option.some.inj h).symm (lv_sub hl [0, 1, 2, 3] rfl) (hP.sub [0] rfl) (hD.sub [0] (by decide) rfl) hS
      · have h := pu_t hc h
        refine lv_iconst (v := 3) hx hb d_Mod_goes_21 (by decide) ?_
        refine lv_goto (tgt := 26) hx hb d_Mod_goes_22 (by decide) ?_
        exact J_1 3 H locs ls (Option.some.inj h).symm (lv_sub hl [0, 1, 2, 3] rfl) (hP.sub [0] rfl) (hD.sub [0] (by decide) rfl) hS
    · have h := pu_t hc h
      refine lv_iconst (v := 2) hx hb d_Mod_goes_13 (by decide) ?_
      refine lv_goto (tgt := 26) hx hb d_Mod_goes_14 (by decide) ?_
      exact J_1 2 H locs ls (Option.some.inj h).symm (lv_sub hl [0, 1, 2, 3] rfl) (hP.sub [0] rfl) (hD.sub [0] (by decide) rfl) hS
  · have h := pu_t hc h
    refine lv_iconst (v := 1) hx hb d_Mod_goes_5 (by decide) ?_
    refine lv_goto (tgt := 26) hx hb d_Mod_goes_6 (by decide) ?_
    exact J_1 1 H locs ls (Option.some.inj h).symm (lv_sub hl [0, 1, 2, 3] rfl) (hP.sub [0] rfl) (hD.sub [0] (by decide) rfl) hS

noncomputable def p_Mod_within (a1 : Int32) (a2 : Int32) (a3 : Int32) : Option (Int32) :=
  (if a1 < a2 then some 0 else (if a3 < a1 then some 0 else some 1))
set_option maxHeartbeats 4000000 in
set_option maxRecDepth 100000 in
theorem c_Mod_within (l : Launch) (dC : Nat → ClassId) (dI : Nat → Nat → Nat) (cI cJ cZ : ClassId) (a1 : Int32) (a2 : Int32) (a3 : Int32) (r0 : Int32) (h : p_Mod_within a1 a2 a3 = some r0) : ct l y_Mod_within w_Mod_within rm_Mod_within (dC, dI) [(cI, .int), (cJ, .long), (cZ, .boolean)] [.int a1, .int a2, .int a3] [] (fun w => w = []) (some (.int r0)) := by
  refine ct_of (cc := b_Mod_within) (maxL := 3) (ret := (some .boolean)) (lv := [(0, .int a1), (1, .int a2), (2, .int a3)]) (by decide) rfl rfl rfl ?_
  intro p e s m args below meth c A Q H locs hx hb hml hown hts hin hA hK hN hP hD hS RT ls hl
  unfold p_Mod_within at h
  refine lv_iload_n hx hb d_Mod_within_0 rfl (lv_at hl 0 rfl) ?_
  refine lv_iload_n hx hb d_Mod_within_1 rfl (lv_at hl 1 rfl) ?_
  refine lv_icmp_lt (tgt := 14) hx hb d_Mod_within_2 (by decide) (fun hc => ?_) (fun hc => ?_)
  · have h := pu_t hc h
    refine lv_iconst (v := 0) hx hb d_Mod_within_14 (by decide) ?_
    cases h
    refine W.widen (k := 0) (n := 0) (Nat.le_of_ble_eq_true rfl) (Nat.le_of_ble_eq_true rfl) ?_
    exact RT 15 ls H locs _ d_Mod_within_15 (Or.inr (Or.inr (Or.inr ⟨rfl, _, rfl, rfl⟩))) rfl (hP.sub [] rfl) (hD.sub [] (by decide) rfl) hS
  · have h := pu_f hc h
    refine lv_iload_n hx hb d_Mod_within_5 rfl (lv_at hl 0 rfl) ?_
    refine lv_iload_n hx hb d_Mod_within_6 rfl (lv_at hl 2 rfl) ?_
    refine lv_icmp_gt (tgt := 14) hx hb d_Mod_within_7 (by decide) (fun hc => ?_) (fun hc => ?_)
    · have h := pu_t hc h
      refine lv_iconst (v := 0) hx hb d_Mod_within_14 (by decide) ?_
      cases h
      refine W.widen (k := 0) (n := 0) (Nat.le_of_ble_eq_true rfl) (Nat.le_of_ble_eq_true rfl) ?_
      exact RT 15 ls H locs _ d_Mod_within_15 (Or.inr (Or.inr (Or.inr ⟨rfl, _, rfl, rfl⟩))) rfl (hP.sub [] rfl) (hD.sub [] (by decide) rfl) hS
    · have h := pu_f hc h
      refine lv_iconst (v := 1) hx hb d_Mod_within_10 (by decide) ?_
      refine lv_goto (tgt := 15) hx hb d_Mod_within_11 (by decide) ?_
      cases h
      refine W.widen (k := 0) (n := 0) (Nat.le_of_ble_eq_true rfl) (Nat.le_of_ble_eq_true rfl) ?_
      exact RT 15 ls H locs _ d_Mod_within_15 (Or.inr (Or.inr (Or.inr ⟨rfl, _, rfl, rfl⟩))) rfl (hP.sub [] rfl) (hD.sub [] (by decide) rfl) hS

noncomputable def p_Mod_isCell (a1 : Int32) (a2 : Int32) (o_thrown : Int32) (o_width : Int32) (o_height : Int32) (o_repeats : Int32) (o_wide : Int32) (o_floor : Int32) (o_across : Int32) (o_down : Int32) (o_sum : Int64) (o_many : Int64) (o_above : Int64) (o_below : Int64) (o_marked : Int32) (o_spots : Int32) (o_days : Int32) : Option (Int32) :=
  (p_Mod_within a1 0 (o_width - 1)).bind (fun (v1 : Int32) => (if v1 = 0 then some 0 else (p_Mod_within a2 0 (o_height - 1)).bind (fun (v2 : Int32) => (if v2 = 0 then some 0 else some 1))))
set_option maxHeartbeats 4000000 in
set_option maxRecDepth 100000 in
theorem c_Mod_isCell (l : Launch) (dC : Nat → ClassId) (dI : Nat → Nat → Nat) (cI cJ cZ : ClassId) (q_o q_o_former q_o_later q_o_charts q_o_lows q_o_highs q_o_firsts q_o_changes q_o_dates q_o_kept : Nat) (a1 : Int32) (a2 : Int32) (o_thrown : Int32) (o_width : Int32) (o_height : Int32) (o_repeats : Int32) (o_wide : Int32) (o_floor : Int32) (o_across : Int32) (o_down : Int32) (o_sum : Int64) (o_many : Int64) (o_above : Int64) (o_below : Int64) (o_marked : Int32) (o_spots : Int32) (o_days : Int32) (r0 : Int32) (h : p_Mod_isCell a1 a2 o_thrown o_width o_height o_repeats o_wide o_floor o_across o_down o_sum o_many o_above o_below o_marked o_spots o_days = some r0) : ct l y_Mod_isCell w_Mod_isCell rm_Mod_isCell (dC, dI) [(cI, .int), (cJ, .long), (cZ, .boolean)] [.ref q_o, .int a1, .int a2] [(q_o, .inr (7, [.int o_thrown, .int o_width, .int o_height, .ref q_o_former, .ref q_o_later, .ref q_o_charts, .ref q_o_lows, .ref q_o_highs, .int o_repeats, .int o_wide, .int o_floor, .int o_across, .int o_down, .long o_sum, .long o_many, .long o_above, .long o_below, .ref q_o_firsts, .ref q_o_changes, .int o_marked, .int o_spots, .int o_days, .ref q_o_dates, .ref q_o_kept]))] (fun w => w = [(q_o, .inr (7, [.int o_thrown, .int o_width, .int o_height, .ref q_o_former, .ref q_o_later, .ref q_o_charts, .ref q_o_lows, .ref q_o_highs, .int o_repeats, .int o_wide, .int o_floor, .int o_across, .int o_down, .long o_sum, .long o_many, .long o_above, .long o_below, .ref q_o_firsts, .ref q_o_changes, .int o_marked, .int o_spots, .int o_days, .ref q_o_dates, .ref q_o_kept]))]) (some (.int r0)) := by
  refine ct_of (cc := b_Mod_isCell) (maxL := 3) (ret := (some .boolean)) (lv := [(0, .ref q_o), (1, .int a1), (2, .int a2)]) (by decide) rfl rfl rfl ?_
  intro p e s m args below meth c A Q H locs hx hb hml hown hts hin hA hK hN hP hD hS RT ls hl
  unfold p_Mod_isCell at h
  refine lv_iload_n hx hb d_Mod_isCell_0 rfl (lv_at hl 1 rfl) ?_
  refine lv_iconst (v := 0) hx hb d_Mod_isCell_1 (by decide) ?_
  refine lv_aload_n hx hb d_Mod_isCell_2 rfl (lv_at hl 0 rfl) ?_
  refine va_get (D := (dC, dI)) (ci := 7) (v := .int o_width) (C := R_Mod) (T := F_Mod) (N := 24) hx hb hts i_Mod hown hK hP 0 rfl rfl 1 (by decide) (hts _ k_609) (fun _ h9 => h9) rfl d_Mod_isCell_3 ?_
  refine lv_iconst (v := 1) hx hb d_Mod_isCell_6 (by decide) ?_
  refine lv_isub hx hb d_Mod_isCell_7 ?_
  obtain ⟨v1, hu1, h⟩ := pu_bd h
  refine cc_S (As := [.int a1, .int 0, .int (o_width - 1)]) (rest := []) ⟨hx, hb, hml, hown, hts⟩ (c_Mod_within l dC dI cI cJ cZ a1 0 (o_width - 1) v1 hu1) (cwS 3 hts (gS k_694 k_695 k_9 k_696 rfl) rfl rfl rfl hdV_Mod_within ⟨Nat.le_of_ble_eq_true rfl, Nat.le_of_ble_eq_true rfl⟩) hK hN hP hD hS hA [] [0] (w0 := []) (wr := [(q_o, .inr (7, [.int o_thrown, .int o_width, .int o_height, .ref q_o_former, .ref q_o_later, .ref q_o_charts, .ref q_o_lows, .ref q_o_highs, .int o_repeats, .int o_wide, .int o_floor, .int o_across, .int o_down, .long o_sum, .long o_many, .long o_above, .long o_below, .ref q_o_firsts, .ref q_o_changes, .int o_marked, .int o_spots, .int o_days, .ref q_o_dates, .ref q_o_kept]))]) rfl rfl (by decide) (by decide) (by decide) rfl hl.1 rfl (Nat.le_of_ble_eq_true rfl) d_Mod_isCell_8 ⟨Nat.le_of_ble_eq_true rfl, Nat.le_of_ble_eq_true rfl⟩ (fun w1 H locs hw1 hP hD hS => ?_)
  subst hw1
  have hP : va_P (dC, dI) vwCl [(q_o, .inr (7, [.int o_thrown, .int o_width, .int o_height, .ref q_o_former, .ref q_o_later, .ref q_o_charts, .ref q_o_lows, .ref q_o_highs, .int o_repeats, .int o_wide, .int o_floor, .int o_across, .int o_down, .long o_sum, .long o_many, .long o_above, .long o_below, .ref q_o_firsts, .ref q_o_changes, .int o_marked, .int o_spots, .int o_days, .ref q_o_dates, .ref q_o_kept]))] H := hP
  have hD : va_D A [(q_o, .inr (7, [.int o_thrown, .int o_width, .int o_height, .ref q_o_former, .ref q_o_later, .ref q_o_charts, .ref q_o_lows, .ref q_o_highs, .int o_repeats, .int o_wide, .int o_floor, .int o_across, .int o_down, .long o_sum, .long o_many, .long o_above, .long o_below, .ref q_o_firsts, .ref q_o_changes, .int o_marked, .int o_spots, .int o_days, .ref q_o_dates, .ref q_o_kept]))] := hD
  refine lv_if_eq (tgt := 32) hx hb d_Mod_isCell_11 (by decide) (fun hc => ?_) (fun hc => ?_)
  · have h := pu_t hc h
    refine lv_iconst (v := 0) hx hb d_Mod_isCell_32 (by decide) ?_
    cases h
    refine W.widen (k := 0) (n := 0) (Nat.le_of_ble_eq_true rfl) (Nat.le_of_ble_eq_true rfl) ?_
    exact RT 33 ls H locs _ d_Mod_isCell_33 (Or.inr (Or.inr (Or.inr ⟨rfl, _, rfl, rfl⟩))) rfl (hP.sub [0] rfl) (hD.sub [0] (by decide) rfl) hS
  · have h := pu_f hc h
    refine lv_iload_n hx hb d_Mod_isCell_14 rfl (lv_at hl 2 rfl) ?_
    refine lv_iconst (v := 0) hx hb d_Mod_isCell_15 (by decide) ?_
    refine lv_aload_n hx hb d_Mod_isCell_16 rfl (lv_at hl 0 rfl) ?_
    refine va_get (D := (dC, dI)) (ci := 7) (v := .int o_height) (C := R_Mod) (T := F_Mod) (N := 24) hx hb hts i_Mod hown hK hP 0 rfl rfl 2 (by decide) (hts _ k_610) (fun _ h9 => h9) rfl d_Mod_isCell_17 ?_
    refine lv_iconst (v := 1) hx hb d_Mod_isCell_20 (by decide) ?_
    refine lv_isub hx hb d_Mod_isCell_21 ?_
    obtain ⟨v2, hu2, h⟩ := pu_bd h
    refine cc_S (As := [.int a2, .int 0, .int (o_height - 1)]) (rest := []) ⟨hx, hb, hml, hown, hts⟩ (c_Mod_within l dC dI cI cJ cZ a2 0 (o_height - 1) v2 hu2) (cwS 3 hts (gS k_694 k_695 k_9 k_696 rfl) rfl rfl rfl hdV_Mod_within ⟨Nat.le_of_ble_eq_true rfl, Nat.le_of_ble_eq_true rfl⟩) hK hN hP hD hS hA [] [0] (w0 := []) (wr := [(q_o, .inr (7, [.int o_thrown, .int o_width, .int o_height, .ref q_o_former, .ref q_o_later, .ref q_o_charts, .ref q_o_lows, .ref q_o_highs, .int o_repeats, .int o_wide, .int o_floor, .int o_across, .int o_down, .long o_sum, .long o_many, .long o_above, .long o_below, .ref q_o_firsts, .ref q_o_changes, .int o_marked, .int o_spots, .int o_days, .ref q_o_dates, .ref q_o_kept]))]) rfl rfl (by decide) (by decide) (by decide) rfl hl.1 rfl (Nat.le_of_ble_eq_true rfl) d_Mod_isCell_22 ⟨Nat.le_of_ble_eq_true rfl, Nat.le_of_ble_eq_true rfl⟩ (fun w1 H locs hw1 hP hD hS => ?_)
    subst hw1
    have hP : va_P (dC, dI) vwCl [(q_o, .inr (7, [.int o_thrown, .int o_width, .int o_height, .ref q_o_former, .ref q_o_later, .ref q_o_charts, .ref q_o_lows, .ref q_o_highs, .int o_repeats, .int o_wide, .int o_floor, .int o_across, .int o_down, .long o_sum, .long o_many, .long o_above, .long o_below, .ref q_o_firsts, .ref q_o_changes, .int o_marked, .int o_spots, .int o_days, .ref q_o_dates, .ref q_o_kept]))] H := hP
    have hD : va_D A [(q_o, .inr (7, [.int o_thrown, .int o_width, .int o_height, .ref q_o_former, .ref q_o_later, .ref q_o_charts, .ref q_o_lows, .ref q_o_highs, .int o_repeats, .int o_wide, .int o_floor, .int o_across, .int o_down, .long o_sum, .long o_many, .long o_above, .long o_below, .ref q_o_firsts, .ref q_o_changes, .int o_marked, .int o_spots, .int o_days, .ref q_o_dates, .ref q_o_kept]))] := hD
    refine lv_if_eq (tgt := 32) hx hb d_Mod_isCell_25 (by decide) (fun hc => ?_) (fun hc => ?_)
    · have h := pu_t hc h
      refine lv_iconst (v := 0) hx hb d_Mod_isCell_32 (by decide) ?_
      cases h
      refine W.widen (k := 0) (n := 0) (Nat.le_of_ble_eq_true rfl) (Nat.le_of_ble_eq_true rfl) ?_
      exact RT 33 ls H locs _ d_Mod_isCell_33 (Or.inr (Or.inr (Or.inr ⟨rfl, _, rfl, rfl⟩))) rfl (hP.sub [0] rfl) (hD.sub [0] (by decide) rfl) hS
    · have h := pu_f hc h
      refine lv_iconst (v := 1) hx hb d_Mod_isCell_28 (by decide) ?_
      refine lv_goto (tgt := 33) hx hb d_Mod_isCell_29 (by decide) ?_
      cases h
      refine W.widen (k := 0) (n := 0) (Nat.le_of_ble_eq_true rfl) (Nat.le_of_ble_eq_true rfl) ?_
      exact RT 33 ls H locs _ d_Mod_isCell_33 (Or.inr (Or.inr (Or.inr ⟨rfl, _, rfl, rfl⟩))) rfl (hP.sub [0] rfl) (hD.sub [0] (by decide) rfl) hS

noncomputable def p_Mod_isPlace (a1 : Int32) (o_thrown : Int32) (o_width : Int32) (o_height : Int32) (o_repeats : Int32) (o_wide : Int32) (o_floor : Int32) (o_across : Int32) (o_down : Int32) (o_sum : Int64) (o_many : Int64) (o_above : Int64) (o_below : Int64) (o_marked : Int32) (o_spots : Int32) (o_days : Int32) : Option (Int32) :=
  pu_gd (¬ (24 : Int32) = 0) (pu_gd (¬ (24 : Int32) = 0) ((p_Mod_isCell (a1 - a1 / 24 * 24) (a1 / 24) o_thrown o_width o_height o_repeats o_wide o_floor o_across o_down o_sum o_many o_above o_below o_marked o_spots o_days).bind (fun (v1 : Int32) => pu_gd (narrow .boolean (.int v1) = .int v1) (some v1))))
set_option maxHeartbeats 4000000 in
set_option maxRecDepth 100000 in
theorem c_Mod_isPlace (l : Launch) (dC : Nat → ClassId) (dI : Nat → Nat → Nat) (cI cJ cZ : ClassId) (q_o q_o_former q_o_later q_o_charts q_o_lows q_o_highs q_o_firsts q_o_changes q_o_dates q_o_kept : Nat) (a1 : Int32) (o_thrown : Int32) (o_width : Int32) (o_height : Int32) (o_repeats : Int32) (o_wide : Int32) (o_floor : Int32) (o_across : Int32) (o_down : Int32) (o_sum : Int64) (o_many : Int64) (o_above : Int64) (o_below : Int64) (o_marked : Int32) (o_spots : Int32) (o_days : Int32) (r0 : Int32) (h : p_Mod_isPlace a1 o_thrown o_width o_height o_repeats o_wide o_floor o_across o_down o_sum o_many o_above o_below o_marked o_spots o_days = some r0) : ct l y_Mod_isPlace w_Mod_isPlace rm_Mod_isPlace (dC, dI) [(cI, .int), (cJ, .long), (cZ, .boolean)] [.ref q_o, .int a1] [(q_o, .inr (7, [.int o_thrown, .int o_width, .int o_height, .ref q_o_former, .ref q_o_later, .ref q_o_charts, .ref q_o_lows, .ref q_o_highs, .int o_repeats, .int o_wide, .int o_floor, .int o_across, .int o_down, .long o_sum, .long o_many, .long o_above, .long o_below, .ref q_o_firsts, .ref q_o_changes, .int o_marked, .int o_spots, .int o_days, .ref q_o_dates, .ref q_o_kept]))] (fun w => w = [(q_o, .inr (7, [.int o_thrown, .int o_width, .int o_height, .ref q_o_former, .ref q_o_later, .ref q_o_charts, .ref q_o_lows, .ref q_o_highs, .int o_repeats, .int o_wide, .int o_floor, .int o_across, .int o_down, .long o_sum, .long o_many, .long o_above, .long o_below, .ref q_o_firsts, .ref q_o_changes, .int o_marked, .int o_spots, .int o_days, .ref q_o_dates, .ref q_o_kept]))]) (some (.int r0)) := by
  refine ct_of (cc := b_Mod_isPlace) (maxL := 2) (ret := (some .boolean)) (lv := [(0, .ref q_o), (1, .int a1)]) (by decide) rfl rfl rfl ?_
  intro p e s m args below meth c A Q H locs hx hb hml hown hts hin hA hK hN hP hD hS RT ls hl
  unfold p_Mod_isPlace at h
  refine lv_aload_n hx hb d_Mod_isPlace_0 rfl (lv_at hl 0 rfl) ?_
  refine lv_iload_n hx hb d_Mod_isPlace_1 rfl (lv_at hl 1 rfl) ?_
  refine lv_bipush (v := 24) hx hb d_Mod_isPlace_2 (by decide) ?_
  obtain ⟨hg, h⟩ := pu_g h
  refine lv_irem hx hb d_Mod_isPlace_4 hg ?_
  refine lv_iload_n hx hb d_Mod_isPlace_5 rfl (lv_at hl 1 rfl) ?_
  refine lv_bipush (v := 24) hx hb d_Mod_isPlace_6 (by decide) ?_
  obtain ⟨hg, h⟩ := pu_g h
  refine lv_idiv hx hb d_Mod_isPlace_8 hg ?_
  obtain ⟨v1, hu1, h⟩ := pu_bd h
  refine cc_V (As := [.int (a1 - a1 / 24 * 24), .int (a1 / 24)]) (rest := []) ⟨hx, hb, hml, hown, hts⟩ (c_Mod_isCell l dC dI cI cJ cZ q_o q_o_former q_o_later q_o_charts q_o_lows q_o_highs q_o_firsts q_o_changes q_o_dates q_o_kept (a1 - a1 / 24 * 24) (a1 / 24) o_thrown o_width o_height o_repeats o_wide o_floor o_across o_down o_sum o_many o_above o_below o_marked o_spots o_days v1 hu1) (cwV 2 hts (gV k_690 k_692 kp_15 k_9 k_693 rfl) rfl rfl rfl hdV_Mod_isCell ⟨Nat.le_of_ble_eq_true rfl, Nat.le_of_ble_eq_true rfl⟩) hK hN hP hD hS hA [0] [] (w0 := [(q_o, .inr (7, [.int o_thrown, .int o_width, .int o_height, .ref q_o_former, .ref q_o_later, .ref q_o_charts, .ref q_o_lows, .ref q_o_highs, .int o_repeats, .int o_wide, .int o_floor, .int o_across, .int o_down, .long o_sum, .long o_many, .long o_above, .long o_below, .ref q_o_firsts, .ref q_o_changes, .int o_marked, .int o_spots, .int o_days, .ref q_o_dates, .ref q_o_kept]))]) (wr := []) rfl rfl (by decide) (by decide) (by decide) 7 rfl rfl rfl hl.1 rfl (Nat.le_of_ble_eq_true rfl) d_Mod_isPlace_9 ⟨Nat.le_of_ble_eq_true rfl, Nat.le_of_ble_eq_true rfl⟩ (fun w1 H locs hw1 hP hD hS => ?_)
  subst hw1
  have hP : va_P (dC, dI) vwCl [(q_o, .inr (7, [.int o_thrown, .int o_width, .int o_height, .ref q_o_former, .ref q_o_later, .ref q_o_charts, .ref q_o_lows, .ref q_o_highs, .int o_repeats, .int o_wide, .int o_floor, .int o_across, .int o_down, .long o_sum, .long o_many, .long o_above, .long o_below, .ref q_o_firsts, .ref q_o_changes, .int o_marked, .int o_spots, .int o_days, .ref q_o_dates, .ref q_o_kept]))] H := hP
  have hD : va_D A [(q_o, .inr (7, [.int o_thrown, .int o_width, .int o_height, .ref q_o_former, .ref q_o_later, .ref q_o_charts, .ref q_o_lows, .ref q_o_highs, .int o_repeats, .int o_wide, .int o_floor, .int o_across, .int o_down, .long o_sum, .long o_many, .long o_above, .long o_below, .ref q_o_firsts, .ref q_o_changes, .int o_marked, .int o_spots, .int o_days, .ref q_o_dates, .ref q_o_kept]))] := hD
  obtain ⟨hz, h⟩ := pu_g h
  cases h
  refine W.widen (k := 0) (n := 0) (Nat.le_of_ble_eq_true rfl) (Nat.le_of_ble_eq_true rfl) ?_
  exact RT 12 ls H locs _ d_Mod_isPlace_12 (Or.inr (Or.inr (Or.inr ⟨rfl, _, rfl, hz⟩))) rfl (hP.sub [0] rfl) (hD.sub [0] (by decide) rfl) hS

noncomputable def p_Mod_apart (a1 : Int32) (a2 : Int32) : Option (Int32) :=
  (if a1 ≤ a2 then some (a2 - a1) else some (a1 - a2))
set_option maxHeartbeats 4000000 in
set_option maxRecDepth 100000 in
theorem c_Mod_apart (l : Launch) (dC : Nat → ClassId) (dI : Nat → Nat → Nat) (cI cJ cZ : ClassId) (a1 : Int32) (a2 : Int32) (r0 : Int32) (h : p_Mod_apart a1 a2 = some r0) : ct l y_Mod_apart w_Mod_apart rm_Mod_apart (dC, dI) [(cI, .int), (cJ, .long), (cZ, .boolean)] [.int a1, .int a2] [] (fun w => w = []) (some (.int r0)) := by
  refine ct_of (cc := b_Mod_apart) (maxL := 2) (ret := (some .int)) (lv := [(0, .int a1), (1, .int a2)]) (by decide) rfl rfl rfl ?_
  intro p e s m args below meth c A Q H locs hx hb hml hown hts hin hA hK hN hP hD hS RT ls hl
  unfold p_Mod_apart at h
  refine lv_iload_n hx hb d_Mod_apart_0 rfl (lv_at hl 0 rfl) ?_
  refine lv_iload_n hx hb d_Mod_apart_1 rfl (lv_at hl 1 rfl) ?_
  refine lv_icmp_le (tgt := 11) hx hb d_Mod_apart_2 (by decide) (fun hc => ?_) (fun hc => ?_)
  · have h := pu_t hc h
    refine lv_iload_n hx hb d_Mod_apart_11 rfl (lv_at hl 1 rfl) ?_
    refine lv_iload_n hx hb d_Mod_apart_12 rfl (lv_at hl 0 rfl) ?_
    refine lv_isub hx hb d_Mod_apart_13 ?_
    cases h
    refine W.widen (k := 0) (n := 0) (Nat.le_of_ble_eq_true rfl) (Nat.le_of_ble_eq_true rfl) ?_
    exact RT 14 ls H locs _ d_Mod_apart_14 (Or.inr (Or.inl ⟨rfl, _, rfl⟩)) rfl (hP.sub [] rfl) (hD.sub [] (by decide) rfl) hS
  · have h := pu_f hc h
    refine lv_iload_n hx hb d_Mod_apart_5 rfl (lv_at hl 0 rfl) ?_
    refine lv_iload_n hx hb d_Mod_apart_6 rfl (lv_at hl 1 rfl) ?_
    refine lv_isub hx hb d_Mod_apart_7 ?_
    refine lv_goto (tgt := 14) hx hb d_Mod_apart_8 (by decide) ?_
    cases h
    refine W.widen (k := 0) (n := 0) (Nat.le_of_ble_eq_true rfl) (Nat.le_of_ble_eq_true rfl) ?_
    exact RT 14 ls H locs _ d_Mod_apart_14 (Or.inr (Or.inl ⟨rfl, _, rfl⟩)) rfl (hP.sub [] rfl) (hD.sub [] (by decide) rfl) hS

noncomputable def p_Mod_cell (a1 : Int32) (a2 : Int32) (a3 : Int32) (a4 : Int32) (o_thrown : Int32) (o_width : Int32) (o_height : Int32) (o_repeats : Int32) (o_wide : Int32) (o_floor : Int32) (o_across : Int32) (o_down : Int32) (o_sum : Int64) (o_many : Int64) (o_above : Int64) (o_below : Int64) (o_marked : Int32) (o_spots : Int32) (o_days : Int32) (o_former_n : Nat) (o_former_f : Nat → Int32) (o_later_n : Nat) (o_later_f : Nat → Int32) : Option (Int32 × Int32 × (Nat → Int32) × (Nat → Int32)) :=
  (p_Mod_isCell a2 a3 o_thrown o_width o_height o_repeats o_wide o_floor o_across o_down o_sum o_many o_above o_below o_marked o_spots o_days).bind (fun (v1 : Int32) => (p_Mod_within a4 0 255).bind (fun (v2 : Int32) => (p_Mod_goes v1 v2 1 o_thrown o_width o_height o_repeats o_wide o_floor o_across o_down o_sum o_many o_above o_below o_marked o_spots o_days).bind (fun ((v3, u3_0) : Int32 × Int32) => (if v3 = 0 then some (0, u3_0, o_former_f, o_later_f) else ((if a1 = 0 then pu_gd (vp_in ((24 * a3) + a2) o_former_n) (some (o_former_f ((24 * a3) + a2).toNatClampNeg)) else pu_gd (vp_in ((24 * a3) + a2) o_later_n) (some (o_later_f ((24 * a3) + a2).toNatClampNeg)))).bind (fun (j4_5 : Int32) => (if a1 = 0 then pu_gd (vp_in ((24 * a3) + a2) o_former_n) (some (j4_5, u3_0, (upd o_former_f ((24 * a3) + a2).toNatClampNeg a4), o_later_f)) else pu_gd (vp_in ((24 * a3) + a2) o_later_n) (some (j4_5, u3_0, o_former_f, (upd o_later_f ((24 * a3) + a2).toNatClampNeg a4)))))))))
set_option maxHeartbeats 4000000 in
set_option maxRecDepth 100000 in
theorem c_Mod_cell (l : Launch) (dC : Nat → ClassId) (dI : Nat → Nat → Nat) (cI cJ cZ : ClassId) (q_o q_o_former q_o_later q_o_charts q_o_lows q_o_highs q_o_firsts q_o_changes q_o_dates q_o_kept : Nat) (a1 : Int32) (a2 : Int32) (a3 : Int32) (a4 : Int32) (o_thrown : Int32) (o_width : Int32) (o_height : Int32) (o_repeats : Int32) (o_wide : Int32) (o_floor : Int32) (o_across : Int32) (o_down : Int32) (o_sum : Int64) (o_many : Int64) (o_above : Int64) (o_below : Int64) (o_marked : Int32) (o_spots : Int32) (o_days : Int32) (o_former_n : Nat) (o_former_f : Nat → Int32) (o_later_n : Nat) (o_later_f : Nat → Int32) (r0 : Int32) (r1 : Int32) (r2 : Nat → Int32) (r3 : Nat → Int32) (h : p_Mod_cell a1 a2 a3 a4 o_thrown o_width o_height o_repeats o_wide o_floor o_across o_down o_sum o_many o_above o_below o_marked o_spots o_days o_former_n o_former_f o_later_n o_later_f = some (r0, r1, r2, r3)) : ct l y_Mod_cell w_Mod_cell rm_Mod_cell (dC, dI) [(cI, .int), (cJ, .long), (cZ, .boolean)] [.ref q_o, .int a1, .int a2, .int a3, .int a4] [(q_o, .inr (7, [.int o_thrown, .int o_width, .int o_height, .ref q_o_former, .ref q_o_later, .ref q_o_charts, .ref q_o_lows, .ref q_o_highs, .int o_repeats, .int o_wide, .int o_floor, .int o_across, .int o_down, .long o_sum, .long o_many, .long o_above, .long o_below, .ref q_o_firsts, .ref q_o_changes, .int o_marked, .int o_spots, .int o_days, .ref q_o_dates, .ref q_o_kept])), (q_o_former, .inl (cI, o_former_n, .inl o_former_f)), (q_o_later, .inl (cI, o_later_n, .inl o_later_f))] (fun w => w = [(q_o, .inr (7, [.int r1, .int o_width, .int o_height, .ref q_o_former, .ref q_o_later, .ref q_o_charts, .ref q_o_lows, .ref q_o_highs, .int o_repeats, .int o_wide, .int o_floor, .int o_across, .int o_down, .long o_sum, .long o_many, .long o_above, .long o_below, .ref q_o_firsts, .ref q_o_changes, .int o_marked, .int o_spots, .int o_days, .ref q_o_dates, .ref q_o_kept])), (q_o_former, .inl (cI, o_former_n, .inl r2)), (q_o_later, .inl (cI, o_later_n, .inl r3))]) (some (.int r0)) := by
  refine ct_of (cc := b_Mod_cell) (maxL := 7) (ret := (some .int)) (lv := [(0, .ref q_o), (1, .int a1), (2, .int a2), (3, .int a3), (4, .int a4)]) (by decide) rfl rfl rfl ?_
  intro p e s m args below meth c A Q H locs hx hb hml hown hts hin hA hK hN hP hD hS RT ls hl
  unfold p_Mod_cell at h
  refine lv_aload_n hx hb d_Mod_cell_0 rfl (lv_at hl 0 rfl) ?_
  refine lv_aload_n hx hb d_Mod_cell_1 rfl (lv_at hl 0 rfl) ?_
  refine lv_iload_n hx hb d_Mod_cell_2 rfl (lv_at hl 2 rfl) ?_
  refine lv_iload_n hx hb d_Mod_cell_3 rfl (lv_at hl 3 rfl) ?_
  obtain ⟨v1, hu1, h⟩ := pu_bd h
  refine cc_V (As := [.int a2, .int a3]) (rest := [.ref q_o]) ⟨hx, hb, hml, hown, hts⟩ (c_Mod_isCell l dC dI cI cJ cZ q_o q_o_former q_o_later q_o_charts q_o_lows q_o_highs q_o_firsts q_o_changes q_o_dates q_o_kept a2 a3 o_thrown o_width o_height o_repeats o_wide o_floor o_across o_down o_sum o_many o_above o_below o_marked o_spots o_days v1 hu1) (cwV 2 hts (gV k_690 k_692 kp_15 k_9 k_693 rfl) rfl rfl rfl hdV_Mod_isCell ⟨Nat.le_of_ble_eq_true rfl, Nat.le_of_ble_eq_true rfl⟩) hK hN hP hD hS hA [0] [1, 2] (w0 := [(q_o, .inr (7, [.int o_thrown, .int o_width, .int o_height, .ref q_o_former, .ref q_o_later, .ref q_o_charts, .ref q_o_lows, .ref q_o_highs, .int o_repeats, .int o_wide, .int o_floor, .int o_across, .int o_down, .long o_sum, .long o_many, .long o_above, .long o_below, .ref q_o_firsts, .ref q_o_changes, .int o_marked, .int o_spots, .int o_days, .ref q_o_dates, .ref q_o_kept]))]) (wr := [(q_o_former, .inl (cI, o_former_n, .inl o_former_f)), (q_o_later, .inl (cI, o_later_n, .inl o_later_f))]) rfl rfl (by decide) (by decide) (by decide) 7 rfl rfl rfl hl.1 rfl (Nat.le_of_ble_eq_true rfl) d_Mod_cell_4 ⟨Nat.le_of_ble_eq_true rfl, Nat.le_of_ble_eq_true rfl⟩ (fun w1 H locs hw1 hP hD hS => ?_)
  subst hw1
  have hP : va_P (dC, dI) vwCl [(q_o_former, .inl (cI, o_former_n, .inl o_former_f)), (q_o_later, .inl (cI, o_later_n, .inl o_later_f)), (q_o, .inr (7, [.int o_thrown, .int o_width, .int o_height, .ref q_o_former, .ref q_o_later, .ref q_o_charts, .ref q_o_lows, .ref q_o_highs, .int o_repeats, .int o_wide, .int o_floor, .int o_across, .int o_down, .long o_sum, .long o_many, .long o_above, .long o_below, .ref q_o_firsts, .ref q_o_changes, .int o_marked, .int o_spots, .int o_days, .ref q_o_dates, .ref q_o_kept]))] H := hP
  have hD : va_D A [(q_o_former, .inl (cI, o_former_n, .inl o_former_f)), (q_o_later, .inl (cI, o_later_n, .inl o_later_f)), (q_o, .inr (7, [.int o_thrown, .int o_width, .int o_height, .ref q_o_former, .ref q_o_later, .ref q_o_charts, .ref q_o_lows, .ref q_o_highs, .int o_repeats, .int o_wide, .int o_floor, .int o_across, .int o_down, .long o_sum, .long o_many, .long o_above, .long o_below, .ref q_o_firsts, .ref q_o_changes, .int o_marked, .int o_spots, .int o_days, .ref q_o_dates, .ref q_o_kept]))] := hD
  refine lv_iload hx hb d_Mod_cell_7 (lv_at hl 4 rfl) ?_
  refine lv_iconst (v := 0) hx hb d_Mod_cell_9 (by decide) ?_
  refine lv_sipush (v := 255) hx hb d_Mod_cell_10 (by decide) ?_
  obtain ⟨v2, hu2, h⟩ := pu_bd h
  refine cc_S (As := [.int a4, .int 0, .int 255]) (rest := [.int v1, .ref q_o]) ⟨hx, hb, hml, hown, hts⟩ (c_Mod_within l dC dI cI cJ cZ a4 0 255 v2 hu2) (cwS 3 hts (gS k_694 k_695 k_9 k_696 rfl) rfl rfl rfl hdV_Mod_within ⟨Nat.le_of_ble_eq_true rfl, Nat.le_of_ble_eq_true rfl⟩) hK hN hP hD hS hA [] [0, 1, 2] (w0 := []) (wr := [(q_o_former, .inl (cI, o_former_n, .inl o_former_f)), (q_o_later, .inl (cI, o_later_n, .inl o_later_f)), (q_o, .inr (7, [.int o_thrown, .int o_width, .int o_height, .ref q_o_former, .ref q_o_later, .ref q_o_charts, .ref q_o_lows, .ref q_o_highs, .int o_repeats, .int o_wide, .int o_floor, .int o_across, .int o_down, .long o_sum, .long o_many, .long o_above, .long o_below, .ref q_o_firsts, .ref q_o_changes, .int o_marked, .int o_spots, .int o_days, .ref q_o_dates, .ref q_o_kept]))]) rfl rfl (by decide) (by decide) (by decide) rfl hl.1 rfl (Nat.le_of_ble_eq_true rfl) d_Mod_cell_13 ⟨Nat.le_of_ble_eq_true rfl, Nat.le_of_ble_eq_true rfl⟩ (fun w1 H locs hw1 hP hD hS => ?_)
  subst hw1
  have hP : va_P (dC, dI) vwCl [(q_o_former, .inl (cI, o_former_n, .inl o_former_f)), (q_o_later, .inl (cI, o_later_n, .inl o_later_f)), (q_o, .inr (7, [.int o_thrown, .int o_width, .int o_height, .ref q_o_former, .ref q_o_later, .ref q_o_charts, .ref q_o_lows, .ref q_o_highs, .int o_repeats, .int o_wide, .int o_floor, .int o_across, .int o_down, .long o_sum, .long o_many, .long o_above, .long o_below, .ref q_o_firsts, .ref q_o_changes, .int o_marked, .int o_spots, .int o_days, .ref q_o_dates, .ref q_o_kept]))] H := hP
  have hD : va_D A [(q_o_former, .inl (cI, o_former_n, .inl o_former_f)), (q_o_later, .inl (cI, o_later_n, .inl o_later_f)), (q_o, .inr (7, [.int o_thrown, .int o_width, .int o_height, .ref q_o_former, .ref q_o_later, .ref q_o_charts, .ref q_o_lows, .ref q_o_highs, .int o_repeats, .int o_wide, .int o_floor, .int o_across, .int o_down, .long o_sum, .long o_many, .long o_above, .long o_below, .ref q_o_firsts, .ref q_o_changes, .int o_marked, .int o_spots, .int o_days, .ref q_o_dates, .ref q_o_kept]))] := hD
  refine lv_iconst (v := 1) hx hb d_Mod_cell_16 (by decide) ?_
  obtain ⟨⟨v3, u3_0⟩, hu3, h⟩ := pu_bd h
  try dsimp only at h
  refine cc_V (As := [.int v1, .int v2, .int 1]) (rest := []) ⟨hx, hb, hml, hown, hts⟩ (c_Mod_goes l dC dI cI cJ cZ q_o q_o_former q_o_later q_o_charts q_o_lows q_o_highs q_o_firsts q_o_changes q_o_dates q_o_kept v1 v2 1 o_thrown o_width o_height o_repeats o_wide o_floor o_across o_down o_sum o_many o_above o_below o_marked o_spots o_days v3 u3_0 hu3) (cwV 3 hts (gV k_697 k_699 kp_16 k_9 k_700 rfl) rfl rfl rfl hdV_Mod_goes ⟨Nat.le_of_ble_eq_true rfl, Nat.le_of_ble_eq_true rfl⟩) hK hN hP hD hS hA [2] [0, 1] (w0 := [(q_o, .inr (7, [.int o_thrown, .int o_width, .int o_height, .ref q_o_former, .ref q_o_later, .ref q_o_charts, .ref q_o_lows, .ref q_o_highs, .int o_repeats, .int o_wide, .int o_floor, .int o_across, .int o_down, .long o_sum, .long o_many, .long o_above, .long o_below, .ref q_o_firsts, .ref q_o_changes, .int o_marked, .int o_spots, .int o_days, .ref q_o_dates, .ref q_o_kept]))]) (wr := [(q_o_former, .inl (cI, o_former_n, .inl o_former_f)), (q_o_later, .inl (cI, o_later_n, .inl o_later_f))]) rfl rfl (by decide) (by decide) (by decide) 7 rfl rfl rfl hl.1 rfl (Nat.le_of_ble_eq_true rfl) d_Mod_cell_17 ⟨Nat.le_of_ble_eq_true rfl, Nat.le_of_ble_eq_true rfl⟩ (fun w1 H locs hw1 hP hD hS => ?_)
  subst hw1
  have hP : va_P (dC, dI) vwCl [(q_o_former, .inl (cI, o_former_n, .inl o_former_f)), (q_o_later, .inl (cI, o_later_n, .inl o_later_f)), (q_o, .inr (7, [.int u3_0, .int o_width, .int o_height, .ref q_o_former, .ref q_o_later, .ref q_o_charts, .ref q_o_lows, .ref q_o_highs, .int o_repeats, .int o_wide, .int o_floor, .int o_across, .int o_down, .long o_sum, .long o_many, .long o_above, .long o_below, .ref q_o_firsts, .ref q_o_changes, .int o_marked, .int o_spots, .int o_days, .ref q_o_dates, .ref q_o_kept]))] H := hP
  have hD : va_D A [(q_o_former, .inl (cI, o_former_n, .inl o_former_f)), (q_o_later, .inl (cI, o_later_n, .inl o_later_f)), (q_o, .inr (7, [.int u3_0, .int o_width, .int o_height, .ref q_o_former, .ref q_o_later, .ref q_o_charts, .ref q_o_lows, .ref q_o_highs, .int o_repeats, .int o_wide, .int o_floor, .int o_across, .int o_down, .long o_sum, .long o_many, .long o_above, .long o_below, .ref q_o_firsts, .ref q_o_changes, .int o_marked, .int o_spots, .int o_days, .ref q_o_dates, .ref q_o_kept]))] := hD
  refine lv_if_ne (tgt := 25) hx hb d_Mod_cell_20 (by decide) (fun hc => ?_) (fun hc => ?_)
  · have h := pu_f hc h
    refine lv_bipush (v := 24) hx hb d_Mod_cell_25 (by decide) ?_
    refine lv_iload_n hx hb d_Mod_cell_27 rfl (lv_at hl 3 rfl) ?_
    refine lv_imul hx hb d_Mod_cell_28 ?_
    refine lv_iload_n hx hb d_Mod_cell_29 rfl (lv_at hl 2 rfl) ?_
    refine lv_iadd hx hb d_Mod_cell_30 ?_
    refine lv_istore (lv' := [(5, .int ((24 * a3) + a2)), (0, .ref q_o), (1, .int a1), (2, .int a2), (3, .int a3), (4, .int a4)]) hx hb d_Mod_cell_31 hl (by decide) rfl (fun ls hl => ?_)
    refine lv_iload_n hx hb d_Mod_cell_33 rfl (lv_at hl 2 rfl) ?_
    obtain ⟨j_4, hj_4, hx_4⟩ := pu_bd h
    have J_4 : ∀ (j4_5 : Int32) (H : Heap) (locs : List Loc) (ls : Array Slot), j_4 = j4_5 → lv_has ls 7 [(5, .int ((24 * a3) + a2)), (0, .ref q_o), (1, .int a1), (2, .int a2), (3, .int a3), (4, .int a4)] → va_P (dC, dI) vwCl [(q_o_former, .inl (cI, o_former_n, .inl o_former_f)), (q_o_later, .inl (cI, o_later_n, .inl o_later_f)), (q_o, .inr (7, [.int u3_0, .int o_width, .int o_height, .ref q_o_former, .ref q_o_later, .ref q_o_charts, .ref q_o_lows, .ref q_o_highs, .int o_repeats, .int o_wide, .int o_floor, .int o_across, .int o_down, .long o_sum, .long o_many, .long o_above, .long o_below, .ref q_o_firsts, .ref q_o_changes, .int o_marked, .int o_spots, .int o_days, .ref q_o_dates, .ref q_o_kept]))] H → va_D A [(q_o_former, .inl (cI, o_former_n, .inl o_former_f)), (q_o_later, .inl (cI, o_later_n, .inl o_later_f)), (q_o, .inr (7, [.int u3_0, .int o_width, .int o_height, .ref q_o_former, .ref q_o_later, .ref q_o_charts, .ref q_o_lows, .ref q_o_highs, .int o_repeats, .int o_wide, .int o_floor, .int o_across, .int o_down, .long o_sum, .long o_many, .long o_above, .long o_below, .ref q_o_firsts, .ref q_o_changes, .int o_marked, .int o_spots, .int o_days, .ref q_o_dates, .ref q_o_kept]))] → va_S A s.heap H locs → W p l e rm_Mod_cell s m args below meth c H locs 0 0 Q (F0 m 54 ls [.int j4_5]) := by
      intro j4_5 H locs ls he hl hP hD hS
      have h := hx_4
      rw [he] at h
      try dsimp only at h
      refine lv_istore (lv' := [(6, .int j4_5), (5, .int ((24 * a3) + a2)), (0, .ref q_o), (1, .int a1), (2, .int a2), (3, .int a3), (4, .int a4)]) hx hb d_Mod_cell_54 hl (by decide) rfl (fun ls hl => ?_)
      refine lv_iload_n hx hb d_Mod_cell_56 rfl (lv_at hl 3 rfl) ?_
      refine lv_if_eq (tgt := 72) hx hb d_Mod_cell_57 (by decide) (fun hc => ?_) (fun hc => ?_)
      · have h := pu_t hc h
        refine lv_aload_n hx hb d_Mod_cell_72 rfl (lv_at hl 2 rfl) ?_
        refine va_get (D := (dC, dI)) (ci := 7) (v := .ref q_o_former) (C := R_Mod) (T := F_Mod) (N := 24) hx hb hts i_Mod hown hK hP 2 rfl rfl 3 (by decide) (hts _ k_611) (fun _ h9 => h9) rfl d_Mod_cell_73 ?_
        refine lv_iload hx hb d_Mod_cell_76 (lv_at hl 1 rfl) ?_
        refine lv_iload hx hb d_Mod_cell_78 (lv_at hl 6 rfl) ?_
        obtain ⟨hg, h⟩ := pu_g h
        refine va_iast hx hb hK hP hD hS 0 0 rfl rfl hg d_Mod_cell_80 (fun H locs hP hD hS => ?_)
        have hP : va_P (dC, dI) vwCl [(q_o_former, .inl (cI, o_former_n, .inl (upd o_former_f ((24 * a3) + a2).toNatClampNeg a4))), (q_o_later, .inl (cI, o_later_n, .inl o_later_f)), (q_o, .inr (7, [.int u3_0, .int o_width, .int o_height, .ref q_o_former, .ref q_o_later, .ref q_o_charts, .ref q_o_lows, .ref q_o_highs, .int o_repeats, .int o_wide, .int o_floor, .int o_across, .int o_down, .long o_sum, .long o_many, .long o_above, .long o_below, .ref q_o_firsts, .ref q_o_changes, .int o_marked, .int o_spots, .int o_days, .ref q_o_dates, .ref q_o_kept]))] H := hP
        have hD : va_D A [(q_o_former, .inl (cI, o_former_n, .inl (upd o_former_f ((24 * a3) + a2).toNatClampNeg a4))), (q_o_later, .inl (cI, o_later_n, .inl o_later_f)), (q_o, .inr (7, [.int u3_0, .int o_width, .int o_height, .ref q_o_former, .ref q_o_later, .ref q_o_charts, .ref q_o_lows, .ref q_o_highs, .int o_repeats, .int o_wide, .int o_floor, .int o_across, .int o_down, .long o_sum, .long o_many, .long o_above, .long o_below, .ref q_o_firsts, .ref q_o_changes, .int o_marked, .int o_spots, .int o_days, .ref q_o_dates, .ref q_o_kept]))] := hD
        refine lv_iload hx hb d_Mod_cell_81 (lv_at hl 0 rfl) ?_
        cases h
        refine W.widen (k := 0) (n := 0) (Nat.le_of_ble_eq_true rfl) (Nat.le_of_ble_eq_true rfl) ?_
        exact RT 83 ls H locs _ d_Mod_cell_83 (Or.inr (Or.inl ⟨rfl, _, rfl⟩)) rfl (hP.sub [2, 0, 1] rfl) (hD.sub [2, 0, 1] (by decide) rfl) hS
      · have h := pu_f hc h
        refine lv_aload_n hx hb d_Mod_cell_60 rfl (lv_at hl 2 rfl) ?_
        refine va_get (D := (dC, dI)) (ci := 7) (v := .ref q_o_later) (C := R_Mod) (T := F_Mod) (N := 24) hx hb hts i_Mod hown hK hP 2 rfl rfl 4 (by decide) (hts _ k_612) (fun _ h9 => h9) rfl d_Mod_cell_61 ?_
        refine lv_iload hx hb d_Mod_cell_64 (lv_at hl 1 rfl) ?_
        refine lv_iload hx hb d_Mod_cell_66 (lv_at hl 6 rfl) ?_
        obtain ⟨hg, h⟩ := pu_g h
        refine va_iast hx hb hK hP hD hS 1 0 rfl rfl hg d_Mod_cell_68 (fun H locs hP hD hS => ?_)
        have hP : va_P (dC, dI) vwCl [(q_o_former, .inl (cI, o_former_n, .inl o_former_f)), (q_o_later, .inl (cI, o_later_n, .inl (upd o_later_f ((24 * a3) + a2).toNatClampNeg a4))), (q_o, .inr (7, [.int u3_0, .int o_width, .int o_height, .ref q_o_former, .ref q_o_later, .ref q_o_charts, .ref q_o_lows, .ref q_o_highs, .int o_repeats, .int o_wide, .int o_floor, .int o_across, .int o_down, .long o_sum, .long o_many, .long o_above, .long o_below, .ref q_o_firsts, .ref q_o_changes, .int o_marked, .int o_spots, .int o_days, .ref q_o_dates, .ref q_o_kept]))] H := hP
        have hD : va_D A [(q_o_former, .inl (cI, o_former_n, .inl o_former_f)), (q_o_later, .inl (cI, o_later_n, .inl (upd o_later_f ((24 * a3) + a2).toNatClampNeg a4))), (q_o, .inr (7, [.int u3_0, .int o_width, .int o_height, .ref q_o_former, .ref q_o_later, .ref q_o_charts, .ref q_o_lows, .ref q_o_highs, .int o_repeats, .int o_wide, .int o_floor, .int o_across, .int o_down, .long o_sum, .long o_many, .long o_above, .long o_below, .ref q_o_firsts, .ref q_o_changes, .int o_marked, .int o_spots, .int o_days, .ref q_o_dates, .ref q_o_kept]))] := hD
        refine lv_goto (tgt := 81) hx hb d_Mod_cell_69 (by decide) ?_
        refine lv_iload hx hb d_Mod_cell_81 (lv_at hl 0 rfl) ?_
        cases h
        refine W.widen (k := 0) (n := 0) (Nat.le_of_ble_eq_true rfl) (Nat.le_of_ble_eq_true rfl) ?_
        exact RT 83 ls H locs _ d_Mod_cell_83 (Or.inr (Or.inl ⟨rfl, _, rfl⟩)) rfl (hP.sub [2, 0, 1] rfl) (hD.sub [2, 0, 1] (by decide) rfl) hS
    have h := hj_4
    refine lv_if_eq (tgt := 47) hx hb d_Mod_cell_34 (by decide) (fun hc => ?_) (fun hc => ?_)
    · have h := pu_t hc h
      refine lv_aload_n hx hb d_Mod_cell_47 rfl (lv_at hl 1 rfl) ?_
      refine va_get (D := (dC, dI)) (ci := 7) (v := .ref q_o_former) (C := R_Mod) (T := F_Mod) (N := 24) hx hb hts i_Mod hown hK hP 2 rfl rfl 3 (by decide) (hts _ k_611) (fun _ h9 => h9) rfl d_Mod_cell_48 ?_
      refine lv_iload hx hb d_Mod_cell_51 (lv_at hl 0 rfl) ?_
      obtain ⟨hg, h⟩ := pu_g h
      refine va_iald hx hb hK hP 0 0 rfl rfl hg d_Mod_cell_53 ?_
      exact J_4 (o_former_f ((24 * a3) + a2).toNatClampNeg) H locs ls (Option.some.inj h).symm (lv_sub hl [0, 1, 2, 3, 4, 5] rfl) (hP.sub [0, 1, 2] rfl) (hD.sub [0, 1, 2] (by decide) rfl) hS
    · have h := pu_f hc h
      refine lv_aload_n hx hb d_Mod_cell_37 rfl (lv_at hl 1 rfl) ?_
      refine va_get (D := (dC, dI)) (ci := 7) (v := .ref q_o_later) (C := R_Mod) (T := F_Mod) (N := 24) hx hb hts i_Mod hown hK hP 2 rfl rfl 4 (by decide) (hts _ k_612) (fun _ h9 => h9) rfl d_Mod_cell_38 ?_
      refine lv_iload hx hb d_Mod_cell_41 (lv_at hl 0 rfl) ?_
      obtain ⟨hg, h⟩ := pu_g h
      refine va_iald hx hb hK hP 1 0 rfl rfl hg d_Mod_cell_43 ?_
      refine lv_goto (tgt := 54) hx hb d_Mod_cell_44 (by decide) ?_
      exact J_4 (o_later_f ((24 * a3) + a2).toNatClampNeg) H locs ls (Option.some.inj h).symm (lv_sub hl [0, 1, 2, 3, 4, 5] rfl) (hP.sub [0, 1, 2] rfl) (hD.sub [0, 1, 2] (by decide) rfl) hS
  · have h := pu_t hc h
    refine lv_iconst (v := 0) hx hb d_Mod_cell_23 (by decide) ?_
    cases h
    refine W.widen (k := 0) (n := 0) (Nat.le_of_ble_eq_true rfl) (Nat.le_of_ble_eq_true rfl) ?_
    exact RT 24 ls H locs _ d_Mod_cell_24 (Or.inr (Or.inl ⟨rfl, _, rfl⟩)) rfl (hP.sub [2, 0, 1] rfl) (hD.sub [2, 0, 1] (by decide) rfl) hS

noncomputable def p_Mod_under (a1 : Int32) (a2 : Int32) (a3 : Int32) (o_thrown : Int32) (o_width : Int32) (o_height : Int32) (o_repeats : Int32) (o_wide : Int32) (o_floor : Int32) (o_across : Int32) (o_down : Int32) (o_sum : Int64) (o_many : Int64) (o_above : Int64) (o_below : Int64) (o_marked : Int32) (o_spots : Int32) (o_days : Int32) : Option (Int32) :=
  (p_Mod_isPlace a1 o_thrown o_width o_height o_repeats o_wide o_floor o_across o_down o_sum o_many o_above o_below o_marked o_spots o_days).bind (fun (v1 : Int32) => (if v1 = 0 then some (-1) else pu_gd (¬ (24 : Int32) = 0) (pu_gd (¬ (24 : Int32) = 0) ((p_Mod_isCell ((a1 - a1 / 24 * 24) + a2) ((a1 / 24) + a3) o_thrown o_width o_height o_repeats o_wide o_floor o_across o_down o_sum o_many o_above o_below o_marked o_spots o_days).bind (fun (v2 : Int32) => (if v2 = 0 then some (-1) else some ((a1 + (24 * a3)) + a2)))))))
set_option maxHeartbeats 4000000 in
set_option maxRecDepth 100000 in
theorem c_Mod_under (l : Launch) (dC : Nat → ClassId) (dI : Nat → Nat → Nat) (cI cJ cZ : ClassId) (q_o q_o_former q_o_later q_o_charts q_o_lows q_o_highs q_o_firsts q_o_changes q_o_dates q_o_kept : Nat) (a1 : Int32) (a2 : Int32) (a3 : Int32) (o_thrown : Int32) (o_width : Int32) (o_height : Int32) (o_repeats : Int32) (o_wide : Int32) (o_floor : Int32) (o_across : Int32) (o_down : Int32) (o_sum : Int64) (o_many : Int64) (o_above : Int64) (o_below : Int64) (o_marked : Int32) (o_spots : Int32) (o_days : Int32) (r0 : Int32) (h : p_Mod_under a1 a2 a3 o_thrown o_width o_height o_repeats o_wide o_floor o_across o_down o_sum o_many o_above o_below o_marked o_spots o_days = some r0) : ct l y_Mod_under w_Mod_under rm_Mod_under (dC, dI) [(cI, .int), (cJ, .long), (cZ, .boolean)] [.ref q_o, .int a1, .int a2, .int a3] [(q_o, .inr (7, [.int o_thrown, .int o_width, .int o_height, .ref q_o_former, .ref q_o_later, .ref q_o_charts, .ref q_o_lows, .ref q_o_highs, .int o_repeats, .int o_wide, .int o_floor, .int o_across, .int o_down, .long o_sum, .long o_many, .long o_above, .long o_below, .ref q_o_firsts, .ref q_o_changes, .int o_marked, .int o_spots, .int o_days, .ref q_o_dates, .ref q_o_kept]))] (fun w => w = [(q_o, .inr (7, [.int o_thrown, .int o_width, .int o_height, .ref q_o_former, .ref q_o_later, .ref q_o_charts, .ref q_o_lows, .ref q_o_highs, .int o_repeats, .int o_wide, .int o_floor, .int o_across, .int o_down, .long o_sum, .long o_many, .long o_above, .long o_below, .ref q_o_firsts, .ref q_o_changes, .int o_marked, .int o_spots, .int o_days, .ref q_o_dates, .ref q_o_kept]))]) (some (.int r0)) := by
  refine ct_of (cc := b_Mod_under) (maxL := 4) (ret := (some .int)) (lv := [(0, .ref q_o), (1, .int a1), (2, .int a2), (3, .int a3)]) (by decide) rfl rfl rfl ?_
  intro p e s m args below meth c A Q H locs hx hb hml hown hts hin hA hK hN hP hD hS RT ls hl
  unfold p_Mod_under at h
  refine lv_aload_n hx hb d_Mod_under_0 rfl (lv_at hl 0 rfl) ?_
  refine lv_iload_n hx hb d_Mod_under_1 rfl (lv_at hl 1 rfl) ?_
  obtain ⟨v1, hu1, h⟩ := pu_bd h
  refine cc_V (As := [.int a1]) (rest := []) ⟨hx, hb, hml, hown, hts⟩ (c_Mod_isPlace l dC dI cI cJ cZ q_o q_o_former q_o_later q_o_charts q_o_lows q_o_highs q_o_firsts q_o_changes q_o_dates q_o_kept a1 o_thrown o_width o_height o_repeats o_wide o_floor o_across o_down o_sum o_many o_above o_below o_marked o_spots o_days v1 hu1) (cwV 1 hts (gV k_714 k_716 kp_19 k_9 k_717 rfl) rfl rfl rfl hdV_Mod_isPlace ⟨Nat.le_of_ble_eq_true rfl, Nat.le_of_ble_eq_true rfl⟩) hK hN hP hD hS hA [0] [] (w0 := [(q_o, .inr (7, [.int o_thrown, .int o_width, .int o_height, .ref q_o_former, .ref q_o_later, .ref q_o_charts, .ref q_o_lows, .ref q_o_highs, .int o_repeats, .int o_wide, .int o_floor, .int o_across, .int o_down, .long o_sum, .long o_many, .long o_above, .long o_below, .ref q_o_firsts, .ref q_o_changes, .int o_marked, .int o_spots, .int o_days, .ref q_o_dates, .ref q_o_kept]))]) (wr := []) rfl rfl (by decide) (by decide) (by decide) 7 rfl rfl rfl hl.1 rfl (Nat.le_of_ble_eq_true rfl) d_Mod_under_2 ⟨Nat.le_of_ble_eq_true rfl, Nat.le_of_ble_eq_true rfl⟩ (fun w1 H locs hw1 hP hD hS => ?_)
  subst hw1
  have hP : va_P (dC, dI) vwCl [(q_o, .inr (7, [.int o_thrown, .int o_width, .int o_height, .ref q_o_former, .ref q_o_later, .ref q_o_charts, .ref q_o_lows, .ref q_o_highs, .int o_repeats, .int o_wide, .int o_floor, .int o_across, .int o_down, .long o_sum, .long o_many, .long o_above, .long o_below, .ref q_o_firsts, .ref q_o_changes, .int o_marked, .int o_spots, .int o_days, .ref q_o_dates, .ref q_o_kept]))] H := hP
  have hD : va_D A [(q_o, .inr (7, [.int o_thrown, .int o_width, .int o_height, .ref q_o_former, .ref q_o_later, .ref q_o_charts, .ref q_o_lows, .ref q_o_highs, .int o_repeats, .int o_wide, .int o_floor, .int o_across, .int o_down, .long o_sum, .long o_many, .long o_above, .long o_below, .ref q_o_firsts, .ref q_o_changes, .int o_marked, .int o_spots, .int o_days, .ref q_o_dates, .ref q_o_kept]))] := hD
  refine lv_if_eq (tgt := 38) hx hb d_Mod_under_5 (by decide) (fun hc => ?_) (fun hc => ?_)
  · have h := pu_t hc h
    refine lv_iconst (v := (-1)) hx hb d_Mod_under_38 (by decide) ?_
    cases h
    refine W.widen (k := 0) (n := 0) (Nat.le_of_ble_eq_true rfl) (Nat.le_of_ble_eq_true rfl) ?_
    exact RT 39 ls H locs _ d_Mod_under_39 (Or.inr (Or.inl ⟨rfl, _, rfl⟩)) rfl (hP.sub [0] rfl) (hD.sub [0] (by decide) rfl) hS
  · have h := pu_f hc h
    refine lv_aload_n hx hb d_Mod_under_8 rfl (lv_at hl 0 rfl) ?_
    refine lv_iload_n hx hb d_Mod_under_9 rfl (lv_at hl 1 rfl) ?_
    refine lv_bipush (v := 24) hx hb d_Mod_under_10 (by decide) ?_
    obtain ⟨hg, h⟩ := pu_g h
    refine lv_irem hx hb d_Mod_under_12 hg ?_
    refine lv_iload_n hx hb d_Mod_under_13 rfl (lv_at hl 2 rfl) ?_
    refine lv_iadd hx hb d_Mod_under_14 ?_
    refine lv_iload_n hx hb d_Mod_under_15 rfl (lv_at hl 1 rfl) ?_
    refine lv_bipush (v := 24) hx hb d_Mod_under_16 (by decide) ?_
    obtain ⟨hg, h⟩ := pu_g h
    refine lv_idiv hx hb d_Mod_under_18 hg ?_
    refine lv_iload_n hx hb d_Mod_under_19 rfl (lv_at hl 3 rfl) ?_
    refine lv_iadd hx hb d_Mod_under_20 ?_
    obtain ⟨v2, hu2, h⟩ := pu_bd h
    refine cc_V (As := [.int ((a1 - a1 / 24 * 24) + a2), .int ((a1 / 24) + a3)]) (rest := []) ⟨hx, hb, hml, hown, hts⟩ (c_Mod_isCell l dC dI cI cJ cZ q_o q_o_former q_o_later q_o_charts q_o_lows q_o_highs q_o_firsts q_o_changes q_o_dates q_o_kept ((a1 - a1 / 24 * 24) + a2) ((a1 / 24) + a3) o_thrown o_width o_height o_repeats o_wide o_floor o_across o_down o_sum o_many o_above o_below o_marked o_spots o_days v2 hu2) (cwV 2 hts (gV k_690 k_692 kp_15 k_9 k_693 rfl) rfl rfl rfl hdV_Mod_isCell ⟨Nat.le_of_ble_eq_true rfl, Nat.le_of_ble_eq_true rfl⟩) hK hN hP hD hS hA [0] [] (w0 := [(q_o, .inr (7, [.int o_thrown, .int o_width, .int o_height, .ref q_o_former, .ref q_o_later, .ref q_o_charts, .ref q_o_lows, .ref q_o_highs, .int o_repeats, .int o_wide, .int o_floor, .int o_across, .int o_down, .long o_sum, .long o_many, .long o_above, .long o_below, .ref q_o_firsts, .ref q_o_changes, .int o_marked, .int o_spots, .int o_days, .ref q_o_dates, .ref q_o_kept]))]) (wr := []) rfl rfl (by decide) (by decide) (by decide) 7 rfl rfl rfl hl.1 rfl (Nat.le_of_ble_eq_true rfl) d_Mod_under_21 ⟨Nat.le_of_ble_eq_true rfl, Nat.le_of_ble_eq_true rfl⟩ (fun w1 H locs hw1 hP hD hS => ?_)
    subst hw1
    have hP : va_P (dC, dI) vwCl [(q_o, .inr (7, [.int o_thrown, .int o_width, .int o_height, .ref q_o_former, .ref q_o_later, .ref q_o_charts, .ref q_o_lows, .ref q_o_highs, .int o_repeats, .int o_wide, .int o_floor, .int o_across, .int o_down, .long o_sum, .long o_many, .long o_above, .long o_below, .ref q_o_firsts, .ref q_o_changes, .int o_marked, .int o_spots, .int o_days, .ref q_o_dates, .ref q_o_kept]))] H := hP
    have hD : va_D A [(q_o, .inr (7, [.int o_thrown, .int o_width, .int o_height, .ref q_o_former, .ref q_o_later, .ref q_o_charts, .ref q_o_lows, .ref q_o_highs, .int o_repeats, .int o_wide, .int o_floor, .int o_across, .int o_down, .long o_sum, .long o_many, .long o_above, .long o_below, .ref q_o_firsts, .ref q_o_changes, .int o_marked, .int o_spots, .int o_days, .ref q_o_dates, .ref q_o_kept]))] := hD
    refine lv_if_eq (tgt := 38) hx hb d_Mod_under_24 (by decide) (fun hc => ?_) (fun hc => ?_)
    · have h := pu_t hc h
      refine lv_iconst (v := (-1)) hx hb d_Mod_under_38 (by decide) ?_
      cases h
      refine W.widen (k := 0) (n := 0) (Nat.le_of_ble_eq_true rfl) (Nat.le_of_ble_eq_true rfl) ?_
      exact RT 39 ls H locs _ d_Mod_under_39 (Or.inr (Or.inl ⟨rfl, _, rfl⟩)) rfl (hP.sub [0] rfl) (hD.sub [0] (by decide) rfl) hS
    · have h := pu_f hc h
      refine lv_iload_n hx hb d_Mod_under_27 rfl (lv_at hl 1 rfl) ?_
      refine lv_bipush (v := 24) hx hb d_Mod_under_28 (by decide) ?_
      refine lv_iload_n hx hb d_Mod_under_30 rfl (lv_at hl 3 rfl) ?_
      refine lv_imul hx hb d_Mod_under_31 ?_
      refine lv_iadd hx hb d_Mod_under_32 ?_
      refine lv_iload_n hx hb d_Mod_under_33 rfl (lv_at hl 2 rfl) ?_
      refine lv_iadd hx hb d_Mod_under_34 ?_
      refine lv_goto (tgt := 39) hx hb d_Mod_under_35 (by decide) ?_
      cases h
      refine W.widen (k := 0) (n := 0) (Nat.le_of_ble_eq_true rfl) (Nat.le_of_ble_eq_true rfl) ?_
      exact RT 39 ls H locs _ d_Mod_under_39 (Or.inr (Or.inl ⟨rfl, _, rfl⟩)) rfl (hP.sub [0] rfl) (hD.sub [0] (by decide) rfl) hS

noncomputable def p_Mod_look_L1 (a1 : Int32) (a2 : Int32) (o_thrown : Int32) (o_width : Int32) (o_height : Int32) (o_repeats : Int32) (o_wide : Int32) (o_floor : Int32) (o_across : Int32) (o_down : Int32) (o_above : Int64) (o_below : Int64) (o_marked : Int32) (o_spots : Int32) (o_days : Int32) (o_former_n : Nat) (o_former_f : Nat → Int32) (o_later_n : Nat) (o_later_f : Nat → Int32) : (Int32 × Int64 × Int64) → Option ((Int32 × Int64 × Int64) ⊕ (Int32 × Int64 × Int64)) := fun ((x3_2, o_sum_3, o_many_4) : Int32 × Int64 × Int64) =>
  (if 576 ≤ x3_2 then some (.inr (x3_2, o_sum_3, o_many_4)) else (p_Mod_under x3_2 a1 a2 o_thrown o_width o_height o_repeats o_wide o_floor o_across o_down o_sum_3 o_many_4 o_above o_below o_marked o_spots o_days).bind (fun (v5 : Int32) => (if v5 = (-1) then some (.inl ((x3_2 + 1), o_sum_3, o_many_4)) else pu_gd (vp_in x3_2 o_former_n) (pu_gd (vp_in v5 o_later_n) ((p_Mod_apart (o_former_f x3_2.toNatClampNeg) (o_later_f v5.toNatClampNeg)).bind (fun (v6 : Int32) => some (.inl ((x3_2 + 1), (o_sum_3 + (v6.toInt64)), (o_many_4 + 1)))))))))
noncomputable def p_Mod_look (a1 : Int32) (a2 : Int32) (o_thrown : Int32) (o_width : Int32) (o_height : Int32) (o_repeats : Int32) (o_wide : Int32) (o_floor : Int32) (o_across : Int32) (o_down : Int32) (o_sum : Int64) (o_many : Int64) (o_above : Int64) (o_below : Int64) (o_marked : Int32) (o_spots : Int32) (o_days : Int32) (o_former_n : Nat) (o_former_f : Nat → Int32) (o_later_n : Nat) (o_later_f : Nat → Int32) : Option (Int64 × Int64) :=
  (pu_loop (p_Mod_look_L1 a1 a2 o_thrown o_width o_height o_repeats o_wide o_floor o_across o_down o_above o_below o_marked o_spots o_days o_former_n o_former_f o_later_n o_later_f) (0, 0, 0)).bind (fun ((y3_7, z8, z9) : Int32 × Int64 × Int64) => some (z8, z9))
set_option maxHeartbeats 4000000 in
set_option maxRecDepth 100000 in
theorem c_Mod_look (l : Launch) (dC : Nat → ClassId) (dI : Nat → Nat → Nat) (cI cJ cZ : ClassId) (q_o q_o_former q_o_later q_o_charts q_o_lows q_o_highs q_o_firsts q_o_changes q_o_dates q_o_kept : Nat) (a1 : Int32) (a2 : Int32) (o_thrown : Int32) (o_width : Int32) (o_height : Int32) (o_repeats : Int32) (o_wide : Int32) (o_floor : Int32) (o_across : Int32) (o_down : Int32) (o_sum : Int64) (o_many : Int64) (o_above : Int64) (o_below : Int64) (o_marked : Int32) (o_spots : Int32) (o_days : Int32) (o_former_n : Nat) (o_former_f : Nat → Int32) (o_later_n : Nat) (o_later_f : Nat → Int32) (r0 : Int64) (r1 : Int64) (h : p_Mod_look a1 a2 o_thrown o_width o_height o_repeats o_wide o_floor o_across o_down o_sum o_many o_above o_below o_marked o_spots o_days o_former_n o_former_f o_later_n o_later_f = some (r0, r1)) : ct l y_Mod_look w_Mod_look rm_Mod_look (dC, dI) [(cI, .int), (cJ, .long), (cZ, .boolean)] [.ref q_o, .int a1, .int a2] [(q_o, .inr (7, [.int o_thrown, .int o_width, .int o_height, .ref q_o_former, .ref q_o_later, .ref q_o_charts, .ref q_o_lows, .ref q_o_highs, .int o_repeats, .int o_wide, .int o_floor, .int o_across, .int o_down, .long o_sum, .long o_many, .long o_above, .long o_below, .ref q_o_firsts, .ref q_o_changes, .int o_marked, .int o_spots, .int o_days, .ref q_o_dates, .ref q_o_kept])), (q_o_former, .inl (cI, o_former_n, .inl o_former_f)), (q_o_later, .inl (cI, o_later_n, .inl o_later_f))] (fun w => w = [(q_o, .inr (7, [.int o_thrown, .int o_width, .int o_height, .ref q_o_former, .ref q_o_later, .ref q_o_charts, .ref q_o_lows, .ref q_o_highs, .int o_repeats, .int o_wide, .int o_floor, .int o_across, .int o_down, .long r0, .long r1, .long o_above, .long o_below, .ref q_o_firsts, .ref q_o_changes, .int o_marked, .int o_spots, .int o_days, .ref q_o_dates, .ref q_o_kept])), (q_o_former, .inl (cI, o_former_n, .inl o_former_f)), (q_o_later, .inl (cI, o_later_n, .inl o_later_f))]) none := by
  refine ct_of (cc := b_Mod_look) (maxL := 5) (ret := none) (lv := [(0, .ref q_o), (1, .int a1), (2, .int a2)]) (by decide) rfl rfl rfl ?_
  intro p e s m args below meth c A Q H locs hx hb hml hown hts hin hA hK hN hP hD hS RT ls hl
  unfold p_Mod_look at h
  refine lv_aload_n hx hb d_Mod_look_0 rfl (lv_at hl 0 rfl) ?_
  refine lv_lconst (v := 0) hx hb d_Mod_look_1 (by decide) ?_
  refine va_put (D := (dC, dI)) (ci := 7) (v := .long 0) (ty := .long) (C := R_Mod) (T := F_Mod) (N := 24) hx hb hts i_Mod t_Mod t_Mod_ok n_Mod hown hK hP hD hS 0 rfl rfl 13 (by decide) (hts _ k_621) (fun _ h9 => h9) rfl (by decide +kernel) rfl rfl (Nat.le_of_ble_eq_true rfl) d_Mod_look_2 (fun H locs hP hD hS => ?_)
  have hP : va_P (dC, dI) vwCl [(q_o, .inr (7, [.int o_thrown, .int o_width, .int o_height, .ref q_o_former, .ref q_o_later, .ref q_o_charts, .ref q_o_lows, .ref q_o_highs, .int o_repeats, .int o_wide, .int o_floor, .int o_across, .int o_down, .long 0, .long o_many, .long o_above, .long o_below, .ref q_o_firsts, .ref q_o_changes, .int o_marked, .int o_spots, .int o_days, .ref q_o_dates, .ref q_o_kept])), (q_o_former, .inl (cI, o_former_n, .inl o_former_f)), (q_o_later, .inl (cI, o_later_n, .inl o_later_f))] H := hP
  have hD : va_D A [(q_o, .inr (7, [.int o_thrown, .int o_width, .int o_height, .ref q_o_former, .ref q_o_later, .ref q_o_charts, .ref q_o_lows, .ref q_o_highs, .int o_repeats, .int o_wide, .int o_floor, .int o_across, .int o_down, .long 0, .long o_many, .long o_above, .long o_below, .ref q_o_firsts, .ref q_o_changes, .int o_marked, .int o_spots, .int o_days, .ref q_o_dates, .ref q_o_kept])), (q_o_former, .inl (cI, o_former_n, .inl o_former_f)), (q_o_later, .inl (cI, o_later_n, .inl o_later_f))] := hD
  refine lv_aload_n hx hb d_Mod_look_5 rfl (lv_at hl 0 rfl) ?_
  refine lv_lconst (v := 0) hx hb d_Mod_look_6 (by decide) ?_
  refine va_put (D := (dC, dI)) (ci := 7) (v := .long 0) (ty := .long) (C := R_Mod) (T := F_Mod) (N := 24) hx hb hts i_Mod t_Mod t_Mod_ok n_Mod hown hK hP hD hS 0 rfl rfl 14 (by decide) (hts _ k_622) (fun _ h9 => h9) rfl (by decide +kernel) rfl rfl (Nat.le_of_ble_eq_true rfl) d_Mod_look_7 (fun H locs hP hD hS => ?_)
  have hP : va_P (dC, dI) vwCl [(q_o, .inr (7, [.int o_thrown, .int o_width, .int o_height, .ref q_o_former, .ref q_o_later, .ref q_o_charts, .ref q_o_lows, .ref q_o_highs, .int o_repeats, .int o_wide, .int o_floor, .int o_across, .int o_down, .long 0, .long 0, .long o_above, .long o_below, .ref q_o_firsts, .ref q_o_changes, .int o_marked, .int o_spots, .int o_days, .ref q_o_dates, .ref q_o_kept])), (q_o_former, .inl (cI, o_former_n, .inl o_former_f)), (q_o_later, .inl (cI, o_later_n, .inl o_later_f))] H := hP
  have hD : va_D A [(q_o, .inr (7, [.int o_thrown, .int o_width, .int o_height, .ref q_o_former, .ref q_o_later, .ref q_o_charts, .ref q_o_lows, .ref q_o_highs, .int o_repeats, .int o_wide, .int o_floor, .int o_across, .int o_down, .long 0, .long 0, .long o_above, .long o_below, .ref q_o_firsts, .ref q_o_changes, .int o_marked, .int o_spots, .int o_days, .ref q_o_dates, .ref q_o_kept])), (q_o_former, .inl (cI, o_former_n, .inl o_former_f)), (q_o_later, .inl (cI, o_later_n, .inl o_later_f))] := hD
  refine lv_iconst (v := 0) hx hb d_Mod_look_10 (by decide) ?_
  refine lv_istore_n (lv' := [(3, .int 0), (0, .ref q_o), (1, .int a1), (2, .int a2)]) hx hb d_Mod_look_11 rfl hl (by decide) rfl (fun ls hl => ?_)
  obtain ⟨e_1, he_1, hx_1⟩ := pu_bd h
  obtain ⟨n_1, hn_1⟩ := pu_loop_it he_1
  have K_1 : ∀ (y3_7 : Int32) (z8 : Int64) (z9 : Int64) (H : Heap) (locs : List Loc) (ls : Array Slot), e_1 = (y3_7, z8, z9) → lv_has ls 5 [(3, .int y3_7), (0, .ref q_o), (1, .int a1), (2, .int a2)] → va_P (dC, dI) vwCl [(q_o, .inr (7, [.int o_thrown, .int o_width, .int o_height, .ref q_o_former, .ref q_o_later, .ref q_o_charts, .ref q_o_lows, .ref q_o_highs, .int o_repeats, .int o_wide, .int o_floor, .int o_across, .int o_down, .long z8, .long z9, .long o_above, .long o_below, .ref q_o_firsts, .ref q_o_changes, .int o_marked, .int o_spots, .int o_days, .ref q_o_dates, .ref q_o_kept])), (q_o_former, .inl (cI, o_former_n, .inl o_former_f)), (q_o_later, .inl (cI, o_later_n, .inl o_later_f))] H → va_D A [(q_o, .inr (7, [.int o_thrown, .int o_width, .int o_height, .ref q_o_former, .ref q_o_later, .ref q_o_charts, .ref q_o_lows, .ref q_o_highs, .int o_repeats, .int o_wide, .int o_floor, .int o_across, .int o_down, .long z8, .long z9, .long o_above, .long o_below, .ref q_o_firsts, .ref q_o_changes, .int o_marked, .int o_spots, .int o_days, .ref q_o_dates, .ref q_o_kept])), (q_o_former, .inl (cI, o_former_n, .inl o_former_f)), (q_o_later, .inl (cI, o_later_n, .inl o_later_f))] → va_S A s.heap H locs → W p l e rm_Mod_look s m args below meth c H locs 0 0 Q (F0 m 76 ls []) := by
    intro y3_7 z8 z9 H locs ls he hl hP hD hS
    have h := hx_1
    rw [he] at h
    try dsimp only at h
    cases h
    refine W.widen (k := 0) (n := 0) (Nat.le_of_ble_eq_true rfl) (Nat.le_of_ble_eq_true rfl) ?_
    exact RT 76 ls H locs _ d_Mod_look_76 (Or.inl ⟨rfl, rfl⟩) rfl (hP.sub [0, 1, 2] rfl) (hD.sub [0, 1, 2] (by decide) rfl) hS
  have L_1 : ∀ (n : Nat) (x3_2 : Int32) (o_sum_3 : Int64) (o_many_4 : Int64) (H : Heap) (locs : List Loc) (ls : Array Slot), pu_it (p_Mod_look_L1 a1 a2 o_thrown o_width o_height o_repeats o_wide o_floor o_across o_down o_above o_below o_marked o_spots o_days o_former_n o_former_f o_later_n o_later_f) n (x3_2, o_sum_3, o_many_4) = some e_1 → lv_has ls 5 [(3, .int x3_2), (0, .ref q_o), (1, .int a1), (2, .int a2)] → va_P (dC, dI) vwCl [(q_o, .inr (7, [.int o_thrown, .int o_width, .int o_height, .ref q_o_former, .ref q_o_later, .ref q_o_charts, .ref q_o_lows, .ref q_o_highs, .int o_repeats, .int o_wide, .int o_floor, .int o_across, .int o_down, .long o_sum_3, .long o_many_4, .long o_above, .long o_below, .ref q_o_firsts, .ref q_o_changes, .int o_marked, .int o_spots, .int o_days, .ref q_o_dates, .ref q_o_kept])), (q_o_former, .inl (cI, o_former_n, .inl o_former_f)), (q_o_later, .inl (cI, o_later_n, .inl o_later_f))] H → va_D A [(q_o, .inr (7, [.int o_thrown, .int o_width, .int o_height, .ref q_o_former, .ref q_o_later, .ref q_o_charts, .ref q_o_lows, .ref q_o_highs, .int o_repeats, .int o_wide, .int o_floor, .int o_across, .int o_down, .long o_sum_3, .long o_many_4, .long o_above, .long o_below, .ref q_o_firsts, .ref q_o_changes, .int o_marked, .int o_spots, .int o_days, .ref q_o_dates, .ref q_o_kept])), (q_o_former, .inl (cI, o_former_n, .inl o_former_f)), (q_o_later, .inl (cI, o_later_n, .inl o_later_f))] → va_S A s.heap H locs → W p l e rm_Mod_look s m args below meth c H locs 0 0 Q (F0 m 12 ls []) := by
    intro n
    induction n with
    | zero => intro x3_2 o_sum_3 o_many_4 H locs ls hn; exact (pu_it_0 hn).elim
    | succ n ih =>
      intro x3_2 o_sum_3 o_many_4 H locs ls hn hl hP hD hS
      obtain ⟨r_1, h, hr_1⟩ := pu_it_succ hn
      unfold p_Mod_look_L1 at h
      try dsimp only at h
      refine lv_iload_n hx hb d_Mod_look_12 rfl (lv_at hl 0 rfl) ?_
      refine lv_sipush (v := 576) hx hb d_Mod_look_13 (by decide) ?_
      refine lv_icmp_ge (tgt := 76) hx hb d_Mod_look_16 (by decide) (fun hc => ?_) (fun hc => ?_)
      · have h := pu_t hc h
        cases h
        exact K_1 x3_2 o_sum_3 o_many_4 H locs ls hr_1.symm (lv_sub hl [0, 1, 2, 3] rfl) (hP.sub [0, 1, 2] rfl) (hD.sub [0, 1, 2] (by decide) rfl) hS
      · have h := pu_f hc h
        refine lv_aload_n hx hb d_Mod_look_19 rfl (lv_at hl 1 rfl) ?_
        refine lv_iload_n hx hb d_Mod_look_20 rfl (lv_at hl 0 rfl) ?_
        refine lv_iload_n hx hb d_Mod_look_21 rfl (lv_at hl 2 rfl) ?_
        refine lv_iload_n hx hb d_Mod_look_22 rfl (lv_at hl 3 rfl) ?_
        obtain ⟨v5, hu5, h⟩ := pu_bd h
        refine cc_V (As := [.int x3_2, .int a1, .int a2]) (rest := []) ⟨hx, hb, hml, hown, hts⟩ (c_Mod_under l dC dI cI cJ cZ q_o q_o_former q_o_later q_o_charts q_o_lows q_o_highs q_o_firsts q_o_changes q_o_dates q_o_kept x3_2 a1 a2 o_thrown o_width o_height o_repeats o_wide o_floor o_across o_down o_sum_3 o_many_4 o_above o_below o_marked o_spots o_days v5 hu5) (cwV 3 hts (gV k_710 k_712 kp_18 k_9 k_713 rfl) rfl rfl rfl hdV_Mod_under ⟨Nat.le_of_ble_eq_true rfl, Nat.le_of_ble_eq_true rfl⟩) hK hN hP hD hS hA [0] [1, 2] (w0 := [(q_o, .inr (7, [.int o_thrown, .int o_width, .int o_height, .ref q_o_former, .ref q_o_later, .ref q_o_charts, .ref q_o_lows, .ref q_o_highs, .int o_repeats, .int o_wide, .int o_floor, .int o_across, .int o_down, .long o_sum_3, .long o_many_4, .long o_above, .long o_below, .ref q_o_firsts, .ref q_o_changes, .int o_marked, .int o_spots, .int o_days, .ref q_o_dates, .ref q_o_kept]))]) (wr := [(q_o_former, .inl (cI, o_former_n, .inl o_former_f)), (q_o_later, .inl (cI, o_later_n, .inl o_later_f))]) rfl rfl (by decide) (by decide) (by decide) 7 rfl rfl rfl hl.1 rfl (Nat.le_of_ble_eq_true rfl) d_Mod_look_23 ⟨Nat.le_of_ble_eq_true rfl, Nat.le_of_ble_eq_true rfl⟩ (fun w1 H locs hw1 hP hD hS => ?_)
        subst hw1
        have hP : va_P (dC, dI) vwCl [(q_o_former, .inl (cI, o_former_n, .inl o_former_f)), (q_o_later, .inl (cI, o_later_n, .inl o_later_f)), (q_o, .inr (7, [.int o_thrown, .int o_width, .int o_height, .ref q_o_former, .ref q_o_later, .ref q_o_charts, .ref q_o_lows, .ref q_o_highs, .int o_repeats, .int o_wide, .int o_floor, .int o_across, .int o_down, .long o_sum_3, .long o_many_4, .long o_above, .long o_below, .ref q_o_firsts, .ref q_o_changes, .int o_marked, .int o_spots, .int o_days, .ref q_o_dates, .ref q_o_kept]))] H := hP
        have hD : va_D A [(q_o_former, .inl (cI, o_former_n, .inl o_former_f)), (q_o_later, .inl (cI, o_later_n, .inl o_later_f)), (q_o, .inr (7, [.int o_thrown, .int o_width, .int o_height, .ref q_o_former, .ref q_o_later, .ref q_o_charts, .ref q_o_lows, .ref q_o_highs, .int o_repeats, .int o_wide, .int o_floor, .int o_across, .int o_down, .long o_sum_3, .long o_many_4, .long o_above, .long o_below, .ref q_o_firsts, .ref q_o_changes, .int o_marked, .int o_spots, .int o_days, .ref q_o_dates, .ref q_o_kept]))] := hD
        refine lv_istore (lv' := [(4, .int v5), (3, .int x3_2), (0, .ref q_o), (1, .int a1), (2, .int a2)]) hx hb d_Mod_look_26 hl (by decide) rfl (fun ls hl => ?_)
        refine lv_iload hx hb d_Mod_look_28 (lv_at hl 0 rfl) ?_
        refine lv_iconst (v := (-1)) hx hb d_Mod_look_30 (by decide) ?_
        refine lv_icmp_eq (tgt := 70) hx hb d_Mod_look_31 (by decide) (fun hc => ?_) (fun hc => ?_)
        · have h := pu_t hc h
          refine lv_iinc (v := (x3_2 + 1)) (lv' := [(3, .int (x3_2 + 1)), (4, .int v5), (0, .ref q_o), (1, .int a1), (2, .int a2)]) hx hb d_Mod_look_70 hl (k := 1) rfl rfl (by decide) rfl (fun ls hl => ?_)
          refine lv_goto (tgt := 12) hx hb d_Mod_look_73 (by decide) ?_
          cases h
          exact ih (x3_2 + 1) o_sum_3 o_many_4 H locs ls hr_1 (lv_sub hl [0, 2, 3, 4] rfl) (hP.sub [2, 0, 1] rfl) (hD.sub [2, 0, 1] (by decide) rfl) hS
        · have h := pu_f hc h
          refine lv_aload_n hx hb d_Mod_look_34 rfl (lv_at hl 2 rfl) ?_
          refine lv_aload_n hx hb d_Mod_look_35 rfl (lv_at hl 2 rfl) ?_
          refine va_get (D := (dC, dI)) (ci := 7) (v := .long o_sum_3) (C := R_Mod) (T := F_Mod) (N := 24) hx hb hts i_Mod hown hK hP 2 rfl rfl 13 (by decide) (hts _ k_621) (fun _ h9 => h9) rfl d_Mod_look_36 ?_
          refine lv_aload_n hx hb d_Mod_look_39 rfl (lv_at hl 2 rfl) ?_
          refine va_get (D := (dC, dI)) (ci := 7) (v := .ref q_o_former) (C := R_Mod) (T := F_Mod) (N := 24) hx hb hts i_Mod hown hK hP 2 rfl rfl 3 (by decide) (hts _ k_611) (fun _ h9 => h9) rfl d_Mod_look_40 ?_
          refine lv_iload_n hx hb d_Mod_look_43 rfl (lv_at hl 1 rfl) ?_
          obtain ⟨hg, h⟩ := pu_g h
          refine va_iald hx hb hK hP 0 0 rfl rfl hg d_Mod_look_44 ?_
          refine lv_aload_n hx hb d_Mod_look_45 rfl (lv_at hl 2 rfl) ?_
          refine va_get (D := (dC, dI)) (ci := 7) (v := .ref q_o_later) (C := R_Mod) (T := F_Mod) (N := 24) hx hb hts i_Mod hown hK hP 2 rfl rfl 4 (by decide) (hts _ k_612) (fun _ h9 => h9) rfl d_Mod_look_46 ?_
          refine lv_iload hx hb d_Mod_look_49 (lv_at hl 0 rfl) ?_
          obtain ⟨hg, h⟩ := pu_g h
          refine va_iald hx hb hK hP 1 0 rfl rfl hg d_Mod_look_51 ?_
          obtain ⟨v6, hu6, h⟩ := pu_bd h
          refine cc_S (As := [.int (o_former_f x3_2.toNatClampNeg), .int (o_later_f v5.toNatClampNeg)]) (rest := [.long o_sum_3, .ref q_o]) ⟨hx, hb, hml, hown, hts⟩ (c_Mod_apart l dC dI cI cJ cZ (o_former_f x3_2.toNatClampNeg) (o_later_f v5.toNatClampNeg) v6 hu6) (cwS 2 hts (gS k_718 k_719 k_9 k_720 rfl) rfl rfl rfl hdV_Mod_apart ⟨Nat.le_of_ble_eq_true rfl, Nat.le_of_ble_eq_true rfl⟩) hK hN hP hD hS hA [] [0, 1, 2] (w0 := []) (wr := [(q_o_former, .inl (cI, o_former_n, .inl o_former_f)), (q_o_later, .inl (cI, o_later_n, .inl o_later_f)), (q_o, .inr (7, [.int o_thrown, .int o_width, .int o_height, .ref q_o_former, .ref q_o_later, .ref q_o_charts, .ref q_o_lows, .ref q_o_highs, .int o_repeats, .int o_wide, .int o_floor, .int o_across, .int o_down, .long o_sum_3, .long o_many_4, .long o_above, .long o_below, .ref q_o_firsts, .ref q_o_changes, .int o_marked, .int o_spots, .int o_days, .ref q_o_dates, .ref q_o_kept]))]) rfl rfl (by decide) (by decide) (by decide) rfl hl.1 rfl (Nat.le_of_ble_eq_true rfl) d_Mod_look_52 ⟨Nat.le_of_ble_eq_true rfl, Nat.le_of_ble_eq_true rfl⟩ (fun w1 H locs hw1 hP hD hS => ?_)
          subst hw1
          have hP : va_P (dC, dI) vwCl [(q_o_former, .inl (cI, o_former_n, .inl o_former_f)), (q_o_later, .inl (cI, o_later_n, .inl o_later_f)), (q_o, .inr (7, [.int o_thrown, .int o_width, .int o_height, .ref q_o_former, .ref q_o_later, .ref q_o_charts, .ref q_o_lows, .ref q_o_highs, .int o_repeats, .int o_wide, .int o_floor, .int o_across, .int o_down, .long o_sum_3, .long o_many_4, .long o_above, .long o_below, .ref q_o_firsts, .ref q_o_changes, .int o_marked, .int o_spots, .int o_days, .ref q_o_dates, .ref q_o_kept]))] H := hP
          have hD : va_D A [(q_o_former, .inl (cI, o_former_n, .inl o_former_f)), (q_o_later, .inl (cI, o_later_n, .inl o_later_f)), (q_o, .inr (7, [.int o_thrown, .int o_width, .int o_height, .ref q_o_former, .ref q_o_later, .ref q_o_charts, .ref q_o_lows, .ref q_o_highs, .int o_repeats, .int o_wide, .int o_floor, .int o_across, .int o_down, .long o_sum_3, .long o_many_4, .long o_above, .long o_below, .ref q_o_firsts, .ref q_o_changes, .int o_marked, .int o_spots, .int o_days, .ref q_o_dates, .ref q_o_kept]))] := hD
          refine lv_i2l hx hb d_Mod_look_55 rfl ?_
          refine lv_ladd hx hb d_Mod_look_56 ?_
          refine va_put (D := (dC, dI)) (ci := 7) (v := .long (o_sum_3 + (v6.toInt64))) (ty := .long) (C := R_Mod) (T := F_Mod) (N := 24) hx hb hts i_Mod t_Mod t_Mod_ok n_Mod hown hK hP hD hS 2 rfl rfl 13 (by decide) (hts _ k_621) (fun _ h9 => h9) rfl (by decide +kernel) rfl rfl (Nat.le_of_ble_eq_true rfl) d_Mod_look_57 (fun H locs hP hD hS => ?_)
          have hP : va_P (dC, dI) vwCl [(q_o_former, .inl (cI, o_former_n, .inl o_former_f)), (q_o_later, .inl (cI, o_later_n, .inl o_later_f)), (q_o, .inr (7, [.int o_thrown, .int o_width, .int o_height, .ref q_o_former, .ref q_o_later, .ref q_o_charts, .ref q_o_lows, .ref q_o_highs, .int o_repeats, .int o_wide, .int o_floor, .int o_across, .int o_down, .long (o_sum_3 + (v6.toInt64)), .long o_many_4, .long o_above, .long o_below, .ref q_o_firsts, .ref q_o_changes, .int o_marked, .int o_spots, .int o_days, .ref q_o_dates, .ref q_o_kept]))] H := hP
          have hD : va_D A [(q_o_former, .inl (cI, o_former_n, .inl o_former_f)), (q_o_later, .inl (cI, o_later_n, .inl o_later_f)), (q_o, .inr (7, [.int o_thrown, .int o_width, .int o_height, .ref q_o_former, .ref q_o_later, .ref q_o_charts, .ref q_o_lows, .ref q_o_highs, .int o_repeats, .int o_wide, .int o_floor, .int o_across, .int o_down, .long (o_sum_3 + (v6.toInt64)), .long o_many_4, .long o_above, .long o_below, .ref q_o_firsts, .ref q_o_changes, .int o_marked, .int o_spots, .int o_days, .ref q_o_dates, .ref q_o_kept]))] := hD
          refine lv_aload_n hx hb d_Mod_look_60 rfl (lv_at hl 2 rfl) ?_
          refine lv_aload_n hx hb d_Mod_look_61 rfl (lv_at hl 2 rfl) ?_
          refine va_get (D := (dC, dI)) (ci := 7) (v := .long o_many_4) (C := R_Mod) (T := F_Mod) (N := 24) hx hb hts i_Mod hown hK hP 2 rfl rfl 14 (by decide) (hts _ k_622) (fun _ h9 => h9) rfl d_Mod_look_62 ?_
          refine lv_lconst (v := 1) hx hb d_Mod_look_65 (by decide) ?_
          refine lv_ladd hx hb d_Mod_look_66 ?_
          refine va_put (D := (dC, dI)) (ci := 7) (v := .long (o_many_4 + 1)) (ty := .long) (C := R_Mod) (T := F_Mod) (N := 24) hx hb hts i_Mod t_Mod t_Mod_ok n_Mod hown hK hP hD hS 2 rfl rfl 14 (by decide) (hts _ k_622) (fun _ h9 => h9) rfl (by decide +kernel) rfl rfl (Nat.le_of_ble_eq_true rfl) d_Mod_look_67 (fun H locs hP hD hS => ?_)
          have hP : va_P (dC, dI) vwCl [(q_o_former, .inl (cI, o_former_n, .inl o_former_f)), (q_o_later, .inl (cI, o_later_n, .inl o_later_f)), (q_o, .inr (7, [.int o_thrown, .int o_width, .int o_height, .ref q_o_former, .ref q_o_later, .ref q_o_charts, .ref q_o_lows, .ref q_o_highs, .int o_repeats, .int o_wide, .int o_floor, .int o_across, .int o_down, .long (o_sum_3 + (v6.toInt64)), .long (o_many_4 + 1), .long o_above, .long o_below, .ref q_o_firsts, .ref q_o_changes, .int o_marked, .int o_spots, .int o_days, .ref q_o_dates, .ref q_o_kept]))] H := hP
          have hD : va_D A [(q_o_former, .inl (cI, o_former_n, .inl o_former_f)), (q_o_later, .inl (cI, o_later_n, .inl o_later_f)), (q_o, .inr (7, [.int o_thrown, .int o_width, .int o_height, .ref q_o_former, .ref q_o_later, .ref q_o_charts, .ref q_o_lows, .ref q_o_highs, .int o_repeats, .int o_wide, .int o_floor, .int o_across, .int o_down, .long (o_sum_3 + (v6.toInt64)), .long (o_many_4 + 1), .long o_above, .long o_below, .ref q_o_firsts, .ref q_o_changes, .int o_marked, .int o_spots, .int o_days, .ref q_o_dates, .ref q_o_kept]))] := hD
          refine lv_iinc (v := (x3_2 + 1)) (lv' := [(3, .int (x3_2 + 1)), (4, .int v5), (0, .ref q_o), (1, .int a1), (2, .int a2)]) hx hb d_Mod_look_70 hl (k := 1) rfl rfl (by decide) rfl (fun ls hl => ?_)
          refine lv_goto (tgt := 12) hx hb d_Mod_look_73 (by decide) ?_
          cases h
          exact ih (x3_2 + 1) (o_sum_3 + (v6.toInt64)) (o_many_4 + 1) H locs ls hr_1 (lv_sub hl [0, 2, 3, 4] rfl) (hP.sub [2, 0, 1] rfl) (hD.sub [2, 0, 1] (by decide) rfl) hS
  exact L_1 n_1 0 0 0 H locs ls hn_1 hl hP hD hS

noncomputable def p_Mod_register_L12 (a1 : Int32) (o_width : Int32) (o_height : Int32) (o_repeats : Int32) (o_wide : Int32) (o_floor : Int32) (o_above : Int64) (o_below : Int64) (o_marked : Int32) (o_spots : Int32) (o_days : Int32) (o_former_n : Nat) (o_former_f : Nat → Int32) (o_later_n : Nat) (o_later_f : Nat → Int32) (u2_0 : Int32) (x7_7 : Int32) : (Int64 × Int64 × Int32 × Int32 × Int32 × Int32 × Int64 × Int64) → Option ((Int64 × Int64 × Int32 × Int32 × Int32 × Int32 × Int64 × Int64) ⊕ (Int64 × Int64 × Int32 × Int32 × Int32 × Int32 × Int64 × Int64)) := fun ((x2_13, x4_14, x6_15, x8_16, o_across_17, o_down_18, o_sum_19, o_many_20) : Int64 × Int64 × Int32 × Int32 × Int32 × Int32 × Int64 × Int64) =>
  (if a1 < x8_16 then some (.inr (x2_13, x4_14, x6_15, x8_16, o_across_17, o_down_18, o_sum_19, o_many_20)) else (p_Mod_look x7_7 x8_16 u2_0 o_width o_height o_repeats o_wide o_floor o_across_17 o_down_18 o_sum_19 o_many_20 o_above o_below o_marked o_spots o_days o_former_n o_former_f o_later_n o_later_f).bind (fun ((u21_0, u21_1) : Int64 × Int64) => (p_Mod_apart x7_7 0).bind (fun (v22 : Int32) => (p_Mod_apart x8_16 0).bind (fun (v23 : Int32) => ((if (lg_cmp x2_13 0) < 0 then some 1 else (if (lg_cmp (u21_0 * x4_14) (x2_13 * u21_1)) < 0 then some 1 else (if (lg_cmp (u21_0 * x4_14) (x2_13 * u21_1)) = 0 then (if x6_15 ≤ (v22 + v23) then some 0 else some 1) else some 0)))).bind (fun (j24_25 : Int32) => ((if j24_25 = 0 then some o_across_17 else some x7_7)).bind (fun (j26_27 : Int32) => ((if j24_25 = 0 then some o_down_18 else some x8_16)).bind (fun (j28_29 : Int32) => ((if j24_25 = 0 then some x6_15 else some (v22 + v23))).bind (fun (j30_31 : Int32) => ((if j24_25 = 0 then some x2_13 else some u21_0)).bind (fun (j32_33 : Int64) => (if j24_25 = 0 then some (.inl (j32_33, x4_14, j30_31, (x8_16 + 1), j26_27, j28_29, u21_0, u21_1)) else some (.inl (j32_33, u21_1, j30_31, (x8_16 + 1), j26_27, j28_29, u21_0, u21_1))))))))))))
noncomputable def p_Mod_register_L3 (a1 : Int32) (o_width : Int32) (o_height : Int32) (o_repeats : Int32) (o_wide : Int32) (o_floor : Int32) (o_above : Int64) (o_below : Int64) (o_marked : Int32) (o_spots : Int32) (o_days : Int32) (o_former_n : Nat) (o_former_f : Nat → Int32) (o_later_n : Nat) (o_later_f : Nat → Int32) (u2_0 : Int32) : (Int64 × Int64 × Int32 × Int32 × Int32 × Int32 × Int64 × Int64) → Option ((Int64 × Int64 × Int32 × Int32 × Int32 × Int32 × Int64 × Int64) ⊕ (Int64 × Int64 × Int32 × Int32 × Int32 × Int32 × Int64 × Int64)) := fun ((x2_4, x4_5, x6_6, x7_7, o_across_8, o_down_9, o_sum_10, o_many_11) : Int64 × Int64 × Int32 × Int32 × Int32 × Int32 × Int64 × Int64) =>
  (if a1 < x7_7 then some (.inr (x2_4, x4_5, x6_6, x7_7, o_across_8, o_down_9, o_sum_10, o_many_11)) else (pu_loop (p_Mod_register_L12 a1 o_width o_height o_repeats o_wide o_floor o_above o_below o_marked o_spots o_days o_former_n o_former_f o_later_n o_later_f u2_0 x7_7) (x2_4, x4_5, x6_6, (0 - a1), o_across_8, o_down_9, o_sum_10, o_many_11)).bind (fun ((y2_34, y4_35, y6_36, y8_37, z38, z39, z40, z41) : Int64 × Int64 × Int32 × Int32 × Int32 × Int32 × Int64 × Int64) => some (.inl (y2_34, y4_35, y6_36, (x7_7 + 1), z38, z39, z40, z41))))
noncomputable def p_Mod_register (a1 : Int32) (o_thrown : Int32) (o_width : Int32) (o_height : Int32) (o_repeats : Int32) (o_wide : Int32) (o_floor : Int32) (o_across : Int32) (o_down : Int32) (o_sum : Int64) (o_many : Int64) (o_above : Int64) (o_below : Int64) (o_marked : Int32) (o_spots : Int32) (o_days : Int32) (o_former_n : Nat) (o_former_f : Nat → Int32) (o_later_n : Nat) (o_later_f : Nat → Int32) : Option (Int32 × Int32 × Int32 × Int32 × Int64 × Int64) :=
  (p_Mod_within a1 0 3).bind (fun (v1 : Int32) => (p_Mod_goes v1 1 1 o_thrown o_width o_height o_repeats o_wide o_floor o_across o_down o_sum o_many o_above o_below o_marked o_spots o_days).bind (fun ((v2, u2_0) : Int32 × Int32) => (if v2 = 0 then some (0, u2_0, o_across, o_down, o_sum, o_many) else (pu_loop (p_Mod_register_L3 a1 o_width o_height o_repeats o_wide o_floor o_above o_below o_marked o_spots o_days o_former_n o_former_f o_later_n o_later_f u2_0) ((-1), 1, 0, (0 - a1), o_across, o_down, o_sum, o_many)).bind (fun ((y2_42, y4_43, y6_44, y7_45, z46, z47, z48, z49) : Int64 × Int64 × Int32 × Int32 × Int32 × Int32 × Int64 × Int64) => some ((y2_42.toInt32), u2_0, z46, z47, z48, z49)))))
set_option maxHeartbeats 4000000 in
set_option maxRecDepth 100000 in
theorem c_Mod_register (l : Launch) (dC : Nat → ClassId) (dI : Nat → Nat → Nat) (cI cJ cZ : ClassId) (q_o q_o_former q_o_later q_o_charts q_o_lows q_o_highs q_o_firsts q_o_changes q_o_dates q_o_kept : Nat) (a1 : Int32) (o_thrown : Int32) (o_width : Int32) (o_height : Int32) (o_repeats : Int32) (o_wide : Int32) (o_floor : Int32) (o_across : Int32) (o_down : Int32) (o_sum : Int64) (o_many : Int64) (o_above : Int64) (o_below : Int64) (o_marked : Int32) (o_spots : Int32) (o_days : Int32) (o_former_n : Nat) (o_former_f : Nat → Int32) (o_later_n : Nat) (o_later_f : Nat → Int32) (r0 : Int32) (r1 : Int32) (r2 : Int32) (r3 : Int32) (r4 : Int64) (r5 : Int64) (h : p_Mod_register a1 o_thrown o_width o_height o_repeats o_wide o_floor o_across o_down o_sum o_many o_above o_below o_marked o_spots o_days o_former_n o_former_f o_later_n o_later_f = some (r0, r1, r2, r3, r4, r5)) : ct l y_Mod_register w_Mod_register rm_Mod_register (dC, dI) [(cI, .int), (cJ, .long), (cZ, .boolean)] [.ref q_o, .int a1] [(q_o, .inr (7, [.int o_thrown, .int o_width, .int o_height, .ref q_o_former, .ref q_o_later, .ref q_o_charts, .ref q_o_lows, .ref q_o_highs, .int o_repeats, .int o_wide, .int o_floor, .int o_across, .int o_down, .long o_sum, .long o_many, .long o_above, .long o_below, .ref q_o_firsts, .ref q_o_changes, .int o_marked, .int o_spots, .int o_days, .ref q_o_dates, .ref q_o_kept])), (q_o_former, .inl (cI, o_former_n, .inl o_former_f)), (q_o_later, .inl (cI, o_later_n, .inl o_later_f))] (fun w => w = [(q_o, .inr (7, [.int r1, .int o_width, .int o_height, .ref q_o_former, .ref q_o_later, .ref q_o_charts, .ref q_o_lows, .ref q_o_highs, .int o_repeats, .int o_wide, .int o_floor, .int r2, .int r3, .long r4, .long r5, .long o_above, .long o_below, .ref q_o_firsts, .ref q_o_changes, .int o_marked, .int o_spots, .int o_days, .ref q_o_dates, .ref q_o_kept])), (q_o_former, .inl (cI, o_former_n, .inl o_former_f)), (q_o_later, .inl (cI, o_later_n, .inl o_later_f))]) (some (.int r0)) := by
  refine ct_of (cc := b_Mod_register) (maxL := 11) (ret := (some .int)) (lv := [(0, .ref q_o), (1, .int a1)]) (by decide) rfl rfl rfl ?_
  intro p e s m args below meth c A Q H locs hx hb hml hown hts hin hA hK hN hP hD hS RT ls hl
  unfold p_Mod_register at h
  refine lv_aload_n hx hb d_Mod_register_0 rfl (lv_at hl 0 rfl) ?_
  refine lv_iload_n hx hb d_Mod_register_1 rfl (lv_at hl 1 rfl) ?_
  refine lv_iconst (v := 0) hx hb d_Mod_register_2 (by decide) ?_
  refine lv_iconst (v := 3) hx hb d_Mod_register_3 (by decide) ?_
  obtain ⟨v1, hu1, h⟩ := pu_bd h
  refine cc_S (As := [.int a1, .int 0, .int 3]) (rest := [.ref q_o]) ⟨hx, hb, hml, hown, hts⟩ (c_Mod_within l dC dI cI cJ cZ a1 0 3 v1 hu1) (cwS 3 hts (gS k_694 k_695 k_9 k_696 rfl) rfl rfl rfl hdV_Mod_within ⟨Nat.le_of_ble_eq_true rfl, Nat.le_of_ble_eq_true rfl⟩) hK hN hP hD hS hA [] [0, 1, 2] (w0 := []) (wr := [(q_o, .inr (7, [.int o_thrown, .int o_width, .int o_height, .ref q_o_former, .ref q_o_later, .ref q_o_charts, .ref q_o_lows, .ref q_o_highs, .int o_repeats, .int o_wide, .int o_floor, .int o_across, .int o_down, .long o_sum, .long o_many, .long o_above, .long o_below, .ref q_o_firsts, .ref q_o_changes, .int o_marked, .int o_spots, .int o_days, .ref q_o_dates, .ref q_o_kept])), (q_o_former, .inl (cI, o_former_n, .inl o_former_f)), (q_o_later, .inl (cI, o_later_n, .inl o_later_f))]) rfl rfl (by decide) (by decide) (by decide) rfl hl.1 rfl (Nat.le_of_ble_eq_true rfl) d_Mod_register_4 ⟨Nat.le_of_ble_eq_true rfl, Nat.le_of_ble_eq_true rfl⟩ (fun w1 H locs hw1 hP hD hS => ?_)
  subst hw1
  have hP : va_P (dC, dI) vwCl [(q_o, .inr (7, [.int o_thrown, .int o_width, .int o_height, .ref q_o_former, .ref q_o_later, .ref q_o_charts, .ref q_o_lows, .ref q_o_highs, .int o_repeats, .int o_wide, .int o_floor, .int o_across, .int o_down, .long o_sum, .long o_many, .long o_above, .long o_below, .ref q_o_firsts, .ref q_o_changes, .int o_marked, .int o_spots, .int o_days, .ref q_o_dates, .ref q_o_kept])), (q_o_former, .inl (cI, o_former_n, .inl o_former_f)), (q_o_later, .inl (cI, o_later_n, .inl o_later_f))] H := hP
  have hD : va_D A [(q_o, .inr (7, [.int o_thrown, .int o_width, .int o_height, .ref q_o_former, .ref q_o_later, .ref q_o_charts, .ref q_o_lows, .ref q_o_highs, .int o_repeats, .int o_wide, .int o_floor, .int o_across, .int o_down, .long o_sum, .long o_many, .long o_above, .long o_below, .ref q_o_firsts, .ref q_o_changes, .int o_marked, .int o_spots, .int o_days, .ref q_o_dates, .ref q_o_kept])), (q_o_former, .inl (cI, o_former_n, .inl o_former_f)), (q_o_later, .inl (cI, o_later_n, .inl o_later_f))] := hD
  refine lv_iconst (v := 1) hx hb d_Mod_register_7 (by decide) ?_
  refine lv_iconst (v := 1) hx hb d_Mod_register_8 (by decide) ?_
  obtain ⟨⟨v2, u2_0⟩, hu2, h⟩ := pu_bd h
  try dsimp only at h
  refine cc_V (As := [.int v1, .int 1, .int 1]) (rest := []) ⟨hx, hb, hml, hown, hts⟩ (c_Mod_goes l dC dI cI cJ cZ q_o q_o_former q_o_later q_o_charts q_o_lows q_o_highs q_o_firsts q_o_changes q_o_dates q_o_kept v1 1 1 o_thrown o_width o_height o_repeats o_wide o_floor o_across o_down o_sum o_many o_above o_below o_marked o_spots o_days v2 u2_0 hu2) (cwV 3 hts (gV k_697 k_699 kp_16 k_9 k_700 rfl) rfl rfl rfl hdV_Mod_goes ⟨Nat.le_of_ble_eq_true rfl, Nat.le_of_ble_eq_true rfl⟩) hK hN hP hD hS hA [0] [1, 2] (w0 := [(q_o, .inr (7, [.int o_thrown, .int o_width, .int o_height, .ref q_o_former, .ref q_o_later, .ref q_o_charts, .ref q_o_lows, .ref q_o_highs, .int o_repeats, .int o_wide, .int o_floor, .int o_across, .int o_down, .long o_sum, .long o_many, .long o_above, .long o_below, .ref q_o_firsts, .ref q_o_changes, .int o_marked, .int o_spots, .int o_days, .ref q_o_dates, .ref q_o_kept]))]) (wr := [(q_o_former, .inl (cI, o_former_n, .inl o_former_f)), (q_o_later, .inl (cI, o_later_n, .inl o_later_f))]) rfl rfl (by decide) (by decide) (by decide) 7 rfl rfl rfl hl.1 rfl (Nat.le_of_ble_eq_true rfl) d_Mod_register_9 ⟨Nat.le_of_ble_eq_true rfl, Nat.le_of_ble_eq_true rfl⟩ (fun w1 H locs hw1 hP hD hS => ?_)
  subst hw1
  have hP : va_P (dC, dI) vwCl [(q_o_former, .inl (cI, o_former_n, .inl o_former_f)), (q_o_later, .inl (cI, o_later_n, .inl o_later_f)), (q_o, .inr (7, [.int u2_0, .int o_width, .int o_height, .ref q_o_former, .ref q_o_later, .ref q_o_charts, .ref q_o_lows, .ref q_o_highs, .int o_repeats, .int o_wide, .int o_floor, .int o_across, .int o_down, .long o_sum, .long o_many, .long o_above, .long o_below, .ref q_o_firsts, .ref q_o_changes, .int o_marked, .int o_spots, .int o_days, .ref q_o_dates, .ref q_o_kept]))] H := hP
  have hD : va_D A [(q_o_former, .inl (cI, o_former_n, .inl o_former_f)), (q_o_later, .inl (cI, o_later_n, .inl o_later_f)), (q_o, .inr (7, [.int u2_0, .int o_width, .int o_height, .ref q_o_former, .ref q_o_later, .ref q_o_charts, .ref q_o_lows, .ref q_o_highs, .int o_repeats, .int o_wide, .int o_floor, .int o_across, .int o_down, .long o_sum, .long o_many, .long o_above, .long o_below, .ref q_o_firsts, .ref q_o_changes, .int o_marked, .int o_spots, .int o_days, .ref q_o_dates, .ref q_o_kept]))] := hD
  refine lv_if_ne (tgt := 17) hx hb d_Mod_register_12 (by decide) (fun hc => ?_) (fun hc => ?_)
  · have h := pu_f hc h
    refine lv_ldc2 (v := (-1)) hx hb hown (hts _ k_705) d_Mod_register_17 ?_
    refine lv_lstore_n (lv' := [(2, .long (-1)), (0, .ref q_o), (1, .int a1)]) hx hb d_Mod_register_20 rfl hl (by decide) rfl (fun ls hl => ?_)
    refine lv_lconst (v := 1) hx hb d_Mod_register_21 (by decide) ?_
    refine lv_lstore (lv' := [(4, .long 1), (2, .long (-1)), (0, .ref q_o), (1, .int a1)]) hx hb d_Mod_register_22 hl (by decide) rfl (fun ls hl => ?_)
    refine lv_iconst (v := 0) hx hb d_Mod_register_24 (by decide) ?_
    refine lv_istore (lv' := [(6, .int 0), (4, .long 1), (2, .long (-1)), (0, .ref q_o), (1, .int a1)]) hx hb d_Mod_register_25 hl (by decide) rfl (fun ls hl => ?_)
    refine lv_iconst (v := 0) hx hb d_Mod_register_27 (by decide) ?_
    refine lv_iload_n hx hb d_Mod_register_28 rfl (lv_at hl 4 rfl) ?_
    refine lv_isub hx hb d_Mod_register_29 ?_
    refine lv_istore (lv' := [(7, .int (0 - a1)), (6, .int 0), (4, .long 1), (2, .long (-1)), (0, .ref q_o), (1, .int a1)]) hx hb d_Mod_register_30 hl (by decide) rfl (fun ls hl => ?_)
    obtain ⟨e_3, he_3, hx_3⟩ := pu_bd h
    obtain ⟨n_3, hn_3⟩ := pu_loop_it he_3
    have K_3 : ∀ (y2_42 : Int64) (y4_43 : Int64) (y6_44 : Int32) (y7_45 : Int32) (z46 : Int32) (z47 : Int32) (z48 : Int64) (z49 : Int64) (H : Heap) (locs : List Loc) (ls : Array Slot), e_3 = (y2_42, y4_43, y6_44, y7_45, z46, z47, z48, z49) → lv_has ls 11 [(7, .int y7_45), (6, .int y6_44), (4, .long y4_43), (2, .long y2_42), (0, .ref q_o), (1, .int a1)] → va_P (dC, dI) vwCl [(q_o_former, .inl (cI, o_former_n, .inl o_former_f)), (q_o_later, .inl (cI, o_later_n, .inl o_later_f)), (q_o, .inr (7, [.int u2_0, .int o_width, .int o_height, .ref q_o_former, .ref q_o_later, .ref q_o_charts, .ref q_o_lows, .ref q_o_highs, .int o_repeats, .int o_wide, .int o_floor, .int z46, .int z47, .long z48, .long z49, .long o_above, .long o_below, .ref q_o_firsts, .ref q_o_changes, .int o_marked, .int o_spots, .int o_days, .ref q_o_dates, .ref q_o_kept]))] H → va_D A [(q_o_former, .inl (cI, o_former_n, .inl o_former_f)), (q_o_later, .inl (cI, o_later_n, .inl o_later_f)), (q_o, .inr (7, [.int u2_0, .int o_width, .int o_height, .ref q_o_former, .ref q_o_later, .ref q_o_charts, .ref q_o_lows, .ref q_o_highs, .int o_repeats, .int o_wide, .int o_floor, .int z46, .int z47, .long z48, .long z49, .long o_above, .long o_below, .ref q_o_firsts, .ref q_o_changes, .int o_marked, .int o_spots, .int o_days, .ref q_o_dates, .ref q_o_kept]))] → va_S A s.heap H locs → W p l e rm_Mod_register s m args below meth c H locs 0 0 Q (F0 m 218 ls []) := by
      intro y2_42 y4_43 y6_44 y7_45 z46 z47 z48 z49 H locs ls he hl hP hD hS
      have h := hx_3
      rw [he] at h
      try dsimp only at h
      refine lv_lload_n hx hb d_Mod_register_218 rfl (lv_at hl 3 rfl) ?_
      refine lv_l2i hx hb d_Mod_register_219 rfl ?_
      cases h
      refine W.widen (k := 0) (n := 0) (Nat.le_of_ble_eq_true rfl) (Nat.le_of_ble_eq_true rfl) ?_
      exact RT 220 ls H locs _ d_Mod_register_220 (Or.inr (Or.inl ⟨rfl, _, rfl⟩)) rfl (hP.sub [2, 0, 1] rfl) (hD.sub [2, 0, 1] (by decide) rfl) hS
    have L_3 : ∀ (n : Nat) (x2_4 : Int64) (x4_5 : Int64) (x6_6 : Int32) (x7_7 : Int32) (o_across_8 : Int32) (o_down_9 : Int32) (o_sum_10 : Int64) (o_many_11 : Int64) (H : Heap) (locs : List Loc) (ls : Array Slot), pu_it (p_Mod_register_L3 a1 o_width o_height o_repeats o_wide o_floor o_above o_below o_marked o_spots o_days o_former_n o_former_f o_later_n o_later_f u2_0) n (x2_4, x4_5, x6_6, x7_7, o_across_8, o_down_9, o_sum_10, o_many_11) = some e_3 → lv_has ls 11 [(7, .int x7_7), (6, .int x6_6), (4, .long x4_5), (2, .long x2_4), (0, .ref q_o), (1, .int a1)] → va_P (dC, dI) vwCl [(q_o_former, .inl (cI, o_former_n, .inl o_former_f)), (q_o_later, .inl (cI, o_later_n, .inl o_later_f)), (q_o, .inr (7, [.int u2_0, .int o_width, .int o_height, .ref q_o_former, .ref q_o_later, .ref q_o_charts, .ref q_o_lows, .ref q_o_highs, .int o_repeats, .int o_wide, .int o_floor, .int o_across_8, .int o_down_9, .long o_sum_10, .long o_many_11, .long o_above, .long o_below, .ref q_o_firsts, .ref q_o_changes, .int o_marked, .int o_spots, .int o_days, .ref q_o_dates, .ref q_o_kept]))] H → va_D A [(q_o_former, .inl (cI, o_former_n, .inl o_former_f)), (q_o_later, .inl (cI, o_later_n, .inl o_later_f)), (q_o, .inr (7, [.int u2_0, .int o_width, .int o_height, .ref q_o_former, .ref q_o_later, .ref q_o_charts, .ref q_o_lows, .ref q_o_highs, .int o_repeats, .int o_wide, .int o_floor, .int o_across_8, .int o_down_9, .long o_sum_10, .long o_many_11, .long o_above, .long o_below, .ref q_o_firsts, .ref q_o_changes, .int o_marked, .int o_spots, .int o_days, .ref q_o_dates, .ref q_o_kept]))] → va_S A s.heap H locs → W p l e rm_Mod_register s m args below meth c H locs 0 0 Q (F0 m 32 ls []) := by
      intro n
      induction n with
      | zero => intro x2_4 x4_5 x6_6 x7_7 o_across_8 o_down_9 o_sum_10 o_many_11 H locs ls hn; exact (pu_it_0 hn).elim
      | succ n ih =>
        intro x2_4 x4_5 x6_6 x7_7 o_across_8 o_down_9 o_sum_10 o_many_11 H locs ls hn hl hP hD hS
        obtain ⟨r_3, h, hr_3⟩ := pu_it_succ hn
        unfold p_Mod_register_L3 at h
        try dsimp only at h
        refine lv_iload hx hb d_Mod_register_32 (lv_at hl 0 rfl) ?_
        refine lv_iload_n hx hb d_Mod_register_34 rfl (lv_at hl 5 rfl) ?_
        refine lv_icmp_gt (tgt := 218) hx hb d_Mod_register_35 (by decide) (fun hc => ?_) (fun hc => ?_)
        · have h := pu_t hc h
          cases h
          exact K_3 x2_4 x4_5 x6_6 x7_7 o_across_8 o_down_9 o_sum_10 o_many_11 H locs ls hr_3.symm (lv_sub hl [0, 1, 2, 3, 4, 5] rfl) (hP.sub [0, 1, 2] rfl) (hD.sub [0, 1, 2] (by decide) rfl) hS
        · have h := pu_f hc h
          refine lv_iconst (v := 0) hx hb d_Mod_register_38 (by decide) ?_
          refine lv_iload_n hx hb d_Mod_register_39 rfl (lv_at hl 5 rfl) ?_
          refine lv_isub hx hb d_Mod_register_40 ?_
          refine lv_istore (lv' := [(8, .int (0 - a1)), (7, .int x7_7), (6, .int x6_6), (4, .long x4_5), (2, .long x2_4), (0, .ref q_o), (1, .int a1)]) hx hb d_Mod_register_41 hl (by decide) rfl (fun ls hl => ?_)
          obtain ⟨e_12, he_12, hx_12⟩ := pu_bd h
          obtain ⟨n_12, hn_12⟩ := pu_loop_it he_12
          have K_12 : ∀ (y2_34 : Int64) (y4_35 : Int64) (y6_36 : Int32) (y8_37 : Int32) (z38 : Int32) (z39 : Int32) (z40 : Int64) (z41 : Int64) (H : Heap) (locs : List Loc) (ls : Array Slot), e_12 = (y2_34, y4_35, y6_36, y8_37, z38, z39, z40, z41) → lv_has ls 11 [(8, .int y8_37), (7, .int x7_7), (6, .int y6_36), (4, .long y4_35), (2, .long y2_34), (0, .ref q_o), (1, .int a1)] → va_P (dC, dI) vwCl [(q_o_former, .inl (cI, o_former_n, .inl o_former_f)), (q_o_later, .inl (cI, o_later_n, .inl o_later_f)), (q_o, .inr (7, [.int u2_0, .int o_width, .int o_height, .ref q_o_former, .ref q_o_later, .ref q_o_charts, .ref q_o_lows, .ref q_o_highs, .int o_repeats, .int o_wide, .int o_floor, .int z38, .int z39, .long z40, .long z41, .long o_above, .long o_below, .ref q_o_firsts, .ref q_o_changes, .int o_marked, .int o_spots, .int o_days, .ref q_o_dates, .ref q_o_kept]))] H → va_D A [(q_o_former, .inl (cI, o_former_n, .inl o_former_f)), (q_o_later, .inl (cI, o_later_n, .inl o_later_f)), (q_o, .inr (7, [.int u2_0, .int o_width, .int o_height, .ref q_o_former, .ref q_o_later, .ref q_o_charts, .ref q_o_lows, .ref q_o_highs, .int o_repeats, .int o_wide, .int o_floor, .int z38, .int z39, .long z40, .long z41, .long o_above, .long o_below, .ref q_o_firsts, .ref q_o_changes, .int o_marked, .int o_spots, .int o_days, .ref q_o_dates, .ref q_o_kept]))] → va_S A s.heap H locs → W p l e rm_Mod_register s m args below meth c H locs 0 0 Q (F0 m 212 ls []) := by
            intro y2_34 y4_35 y6_36 y8_37 z38 z39 z40 z41 H locs ls he hl hP hD hS
            have h := hx_12
            rw [he] at h
            try dsimp only at h
            refine lv_iinc (v := (x7_7 + 1)) (lv' := [(7, .int (x7_7 + 1)), (8, .int y8_37), (6, .int y6_36), (4, .long y4_35), (2, .long y2_34), (0, .ref q_o), (1, .int a1)]) hx hb d_Mod_register_212 hl (k := 1) rfl rfl (by decide) rfl (fun ls hl => ?_)
            refine lv_goto (tgt := 32) hx hb d_Mod_register_215 (by decide) ?_
            cases h
            exact ih y2_34 y4_35 y6_36 (x7_7 + 1) z38 z39 z40 z41 H locs ls hr_3 (lv_sub hl [0, 2, 3, 4, 5, 6] rfl) (hP.sub [0, 1, 2] rfl) (hD.sub [0, 1, 2] (by decide) rfl) hS
          have L_12 : ∀ (n : Nat) (x2_13 : Int64) (x4_14 : Int64) (x6_15 : Int32) (x8_16 : Int32) (o_across_17 : Int32) (o_down_18 : Int32) (o_sum_19 : Int64) (o_many_20 : Int64) (H : Heap) (locs : List Loc) (ls : Array Slot), pu_it (p_Mod_register_L12 a1 o_width o_height o_repeats o_wide o_floor o_above o_below o_marked o_spots o_days o_former_n o_former_f o_later_n o_later_f u2_0 x7_7) n (x2_13, x4_14, x6_15, x8_16, o_across_17, o_down_18, o_sum_19, o_many_20) = some e_12 → lv_has ls 11 [(8, .int x8_16), (7, .int x7_7), (6, .int x6_15), (4, .long x4_14), (2, .long x2_13), (0, .ref q_o), (1, .int a1)] → va_P (dC, dI) vwCl [(q_o_former, .inl (cI, o_former_n, .inl o_former_f)), (q_o_later, .inl (cI, o_later_n, .inl o_later_f)), (q_o, .inr (7, [.int u2_0, .int o_width, .int o_height, .ref q_o_former, .ref q_o_later, .ref q_o_charts, .ref q_o_lows, .ref q_o_highs, .int o_repeats, .int o_wide, .int o_floor, .int o_across_17, .int o_down_18, .long o_sum_19, .long o_many_20, .long o_above, .long o_below, .ref q_o_firsts, .ref q_o_changes, .int o_marked, .int o_spots, .int o_days, .ref q_o_dates, .ref q_o_kept]))] H → va_D A [(q_o_former, .inl (cI, o_former_n, .inl o_former_f)), (q_o_later, .inl (cI, o_later_n, .inl o_later_f)), (q_o, .inr (7, [.int u2_0, .int o_width, .int o_height, .ref q_o_former, .ref q_o_later, .ref q_o_charts, .ref q_o_lows, .ref q_o_highs, .int o_repeats, .int o_wide, .int o_floor, .int o_across_17, .int o_down_18, .long o_sum_19, .long o_many_20, .long o_above, .long o_below, .ref q_o_firsts, .ref q_o_changes, .int o_marked, .int o_spots, .int o_days, .ref q_o_dates, .ref q_o_kept]))] → va_S A s.heap H locs → W p l e rm_Mod_register s m args below meth c H locs 0 0 Q (F0 m 43 ls []) := by
            intro n
            induction n with
            | zero => intro x2_13 x4_14 x6_15 x8_16 o_across_17 o_down_18 o_sum_19 o_many_20 H locs ls hn; exact (pu_it_0 hn).elim
            | succ n ih =>
              intro x2_13 x4_14 x6_15 x8_16 o_across_17 o_down_18 o_sum_19 o_many_20 H locs ls hn hl hP hD hS
              obtain ⟨r_12, h, hr_12⟩ := pu_it_succ hn
              unfold p_Mod_register_L12 at h
              try dsimp only at h
              refine lv_iload hx hb d_Mod_register_43 (lv_at hl 0 rfl) ?_
              refine lv_iload_n hx hb d_Mod_register_45 rfl (lv_at hl 6 rfl) ?_
              refine lv_icmp_gt (tgt := 212) hx hb d_Mod_register_46 (by decide) (fun hc => ?_) (fun hc => ?_)
              · have h := pu_t hc h
                cases h
                exact K_12 x2_13 x4_14 x6_15 x8_16 o_across_17 o_down_18 o_sum_19 o_many_20 H locs ls hr_12.symm (lv_sub hl [0, 1, 2, 3, 4, 5, 6] rfl) (hP.sub [0, 1, 2] rfl) (hD.sub [0, 1, 2] (by decide) rfl) hS
              · have h := pu_f hc h
                refine lv_aload_n hx hb d_Mod_register_49 rfl (lv_at hl 5 rfl) ?_
                refine lv_iload hx hb d_Mod_register_50 (lv_at hl 1 rfl) ?_
                refine lv_iload hx hb d_Mod_register_52 (lv_at hl 0 rfl) ?_
                obtain ⟨⟨u21_0, u21_1⟩, hu21, h⟩ := pu_bd h
                try dsimp only at h
                refine cc_V (As := [.int x7_7, .int x8_16]) (rest := []) ⟨hx, hb, hml, hown, hts⟩ (c_Mod_look l dC dI cI cJ cZ q_o q_o_former q_o_later q_o_charts q_o_lows q_o_highs q_o_firsts q_o_changes q_o_dates q_o_kept x7_7 x8_16 u2_0 o_width o_height o_repeats o_wide o_floor o_across_17 o_down_18 o_sum_19 o_many_20 o_above o_below o_marked o_spots o_days o_former_n o_former_f o_later_n o_later_f u21_0 u21_1 hu21) (cwV 2 hts (gV k_706 k_708 kp_17 k_9 k_709 rfl) rfl rfl rfl hdV_Mod_look ⟨Nat.le_of_ble_eq_true rfl, Nat.le_of_ble_eq_true rfl⟩) hK hN hP hD hS hA [2, 0, 1] [] (w0 := [(q_o, .inr (7, [.int u2_0, .int o_width, .int o_height, .ref q_o_former, .ref q_o_later, .ref q_o_charts, .ref q_o_lows, .ref q_o_highs, .int o_repeats, .int o_wide, .int o_floor, .int o_across_17, .int o_down_18, .long o_sum_19, .long o_many_20, .long o_above, .long o_below, .ref q_o_firsts, .ref q_o_changes, .int o_marked, .int o_spots, .int o_days, .ref q_o_dates, .ref q_o_kept])), (q_o_former, .inl (cI, o_former_n, .inl o_former_f)), (q_o_later, .inl (cI, o_later_n, .inl o_later_f))]) (wr := []) rfl rfl (by decide) (by decide) (by decide) 7 rfl rfl rfl hl.1 rfl (Nat.le_of_ble_eq_true rfl) d_Mod_register_54 ⟨Nat.le_of_ble_eq_true rfl, Nat.le_of_ble_eq_true rfl⟩ (fun w1 H locs hw1 hP hD hS => ?_)
                subst hw1
                have hP : va_P (dC, dI) vwCl [(q_o, .inr (7, [.int u2_0, .int o_width, .int o_height, .ref q_o_former, .ref q_o_later, .ref q_o_charts, .ref q_o_lows, .ref q_o_highs, .int o_repeats, .int o_wide, .int o_floor, .int o_across_17, .int o_down_18, .long u21_0, .long u21_1, .long o_above, .long o_below, .ref q_o_firsts, .ref q_o_changes, .int o_marked, .int o_spots, .int o_days, .ref q_o_dates, .ref q_o_kept])), (q_o_former, .inl (cI, o_former_n, .inl o_former_f)), (q_o_later, .inl (cI, o_later_n, .inl o_later_f))] H := hP
                have hD : va_D A [(q_o, .inr (7, [.int u2_0, .int o_width, .int o_height, .ref q_o_former, .ref q_o_later, .ref q_o_charts, .ref q_o_lows, .ref q_o_highs, .int o_repeats, .int o_wide, .int o_floor, .int o_across_17, .int o_down_18, .long u21_0, .long u21_1, .long o_above, .long o_below, .ref q_o_firsts, .ref q_o_changes, .int o_marked, .int o_spots, .int o_days, .ref q_o_dates, .ref q_o_kept])), (q_o_former, .inl (cI, o_former_n, .inl o_former_f)), (q_o_later, .inl (cI, o_later_n, .inl o_later_f))] := hD
                refine lv_iload hx hb d_Mod_register_57 (lv_at hl 1 rfl) ?_
                refine lv_iconst (v := 0) hx hb d_Mod_register_59 (by decide) ?_
                obtain ⟨v22, hu22, h⟩ := pu_bd h
                refine cc_S (As := [.int x7_7, .int 0]) (rest := []) ⟨hx, hb, hml, hown, hts⟩ (c_Mod_apart l dC dI cI cJ cZ x7_7 0 v22 hu22) (cwS 2 hts (gS k_718 k_719 k_9 k_720 rfl) rfl rfl rfl hdV_Mod_apart ⟨Nat.le_of_ble_eq_true rfl, Nat.le_of_ble_eq_true rfl⟩) hK hN hP hD hS hA [] [0, 1, 2] (w0 := []) (wr := [(q_o, .inr (7, [.int u2_0, .int o_width, .int o_height, .ref q_o_former, .ref q_o_later, .ref q_o_charts, .ref q_o_lows, .ref q_o_highs, .int o_repeats, .int o_wide, .int o_floor, .int o_across_17, .int o_down_18, .long u21_0, .long u21_1, .long o_above, .long o_below, .ref q_o_firsts, .ref q_o_changes, .int o_marked, .int o_spots, .int o_days, .ref q_o_dates, .ref q_o_kept])), (q_o_former, .inl (cI, o_former_n, .inl o_former_f)), (q_o_later, .inl (cI, o_later_n, .inl o_later_f))]) rfl rfl (by decide) (by decide) (by decide) rfl hl.1 rfl (Nat.le_of_ble_eq_true rfl) d_Mod_register_60 ⟨Nat.le_of_ble_eq_true rfl, Nat.le_of_ble_eq_true rfl⟩ (fun w1 H locs hw1 hP hD hS => ?_)
                subst hw1
                have hP : va_P (dC, dI) vwCl [(q_o, .inr (7, [.int u2_0, .int o_width, .int o_height, .ref q_o_former, .ref q_o_later, .ref q_o_charts, .ref q_o_lows, .ref q_o_highs, .int o_repeats, .int o_wide, .int o_floor, .int o_across_17, .int o_down_18, .long u21_0, .long u21_1, .long o_above, .long o_below, .ref q_o_firsts, .ref q_o_changes, .int o_marked, .int o_spots, .int o_days, .ref q_o_dates, .ref q_o_kept])), (q_o_former, .inl (cI, o_former_n, .inl o_former_f)), (q_o_later, .inl (cI, o_later_n, .inl o_later_f))] H := hP
                have hD : va_D A [(q_o, .inr (7, [.int u2_0, .int o_width, .int o_height, .ref q_o_former, .ref q_o_later, .ref q_o_charts, .ref q_o_lows, .ref q_o_highs, .int o_repeats, .int o_wide, .int o_floor, .int o_across_17, .int o_down_18, .long u21_0, .long u21_1, .long o_above, .long o_below, .ref q_o_firsts, .ref q_o_changes, .int o_marked, .int o_spots, .int o_days, .ref q_o_dates, .ref q_o_kept])), (q_o_former, .inl (cI, o_former_n, .inl o_former_f)), (q_o_later, .inl (cI, o_later_n, .inl o_later_f))] := hD
                refine lv_iload hx hb d_Mod_register_63 (lv_at hl 0 rfl) ?_
                refine lv_iconst (v := 0) hx hb d_Mod_register_65 (by decide) ?_
                obtain ⟨v23, hu23, h⟩ := pu_bd h
                refine cc_S (As := [.int x8_16, .int 0]) (rest := [.int v22]) ⟨hx, hb, hml, hown, hts⟩ (c_Mod_apart l dC dI cI cJ cZ x8_16 0 v23 hu23) (cwS 2 hts (gS k_718 k_719 k_9 k_720 rfl) rfl rfl rfl hdV_Mod_apart ⟨Nat.le_of_ble_eq_true rfl, Nat.le_of_ble_eq_true rfl⟩) hK hN hP hD hS hA [] [0, 1, 2] (w0 := []) (wr := [(q_o, .inr (7, [.int u2_0, .int o_width, .int o_height, .ref q_o_former, .ref q_o_later, .ref q_o_charts, .ref q_o_lows, .ref q_o_highs, .int o_repeats, .int o_wide, .int o_floor, .int o_across_17, .int o_down_18, .long u21_0, .long u21_1, .long o_above, .long o_below, .ref q_o_firsts, .ref q_o_changes, .int o_marked, .int o_spots, .int o_days, .ref q_o_dates, .ref q_o_kept])), (q_o_former, .inl (cI, o_former_n, .inl o_former_f)), (q_o_later, .inl (cI, o_later_n, .inl o_later_f))]) rfl rfl (by decide) (by decide) (by decide) rfl hl.1 rfl (Nat.le_of_ble_eq_true rfl) d_Mod_register_66 ⟨Nat.le_of_ble_eq_true rfl, Nat.le_of_ble_eq_true rfl⟩ (fun w1 H locs hw1 hP hD hS => ?_)
                subst hw1
                have hP : va_P (dC, dI) vwCl [(q_o, .inr (7, [.int u2_0, .int o_width, .int o_height, .ref q_o_former, .ref q_o_later, .ref q_o_charts, .ref q_o_lows, .ref q_o_highs, .int o_repeats, .int o_wide, .int o_floor, .int o_across_17, .int o_down_18, .long u21_0, .long u21_1, .long o_above, .long o_below, .ref q_o_firsts, .ref q_o_changes, .int o_marked, .int o_spots, .int o_days, .ref q_o_dates, .ref q_o_kept])), (q_o_former, .inl (cI, o_former_n, .inl o_former_f)), (q_o_later, .inl (cI, o_later_n, .inl o_later_f))] H := hP
                have hD : va_D A [(q_o, .inr (7, [.int u2_0, .int o_width, .int o_height, .ref q_o_former, .ref q_o_later, .ref q_o_charts, .ref q_o_lows, .ref q_o_highs, .int o_repeats, .int o_wide, .int o_floor, .int o_across_17, .int o_down_18, .long u21_0, .long u21_1, .long o_above, .long o_below, .ref q_o_firsts, .ref q_o_changes, .int o_marked, .int o_spots, .int o_days, .ref q_o_dates, .ref q_o_kept])), (q_o_former, .inl (cI, o_former_n, .inl o_former_f)), (q_o_later, .inl (cI, o_later_n, .inl o_later_f))] := hD
                refine lv_iadd hx hb d_Mod_register_69 ?_
                refine lv_istore (lv' := [(9, .int (v22 + v23)), (8, .int x8_16), (7, .int x7_7), (6, .int x6_15), (4, .long x4_14), (2, .long x2_13), (0, .ref q_o), (1, .int a1)]) hx hb d_Mod_register_70 hl (by decide) rfl (fun ls hl => ?_)
                refine lv_lload_n hx hb d_Mod_register_72 rfl (lv_at hl 5 rfl) ?_
                refine lv_lconst (v := 0) hx hb d_Mod_register_73 (by decide) ?_
                refine W.lcmp hx hb d_Mod_register_74 ?_
                obtain ⟨j_24, hj_24, hx_24⟩ := pu_bd h
                have J_24 : ∀ (j24_25 : Int32) (H : Heap) (locs : List Loc) (ls : Array Slot), j_24 = j24_25 → lv_has ls 11 [(9, .int (v22 + v23)), (8, .int x8_16), (7, .int x7_7), (6, .int x6_15), (4, .long x4_14), (2, .long x2_13), (0, .ref q_o), (1, .int a1)] → va_P (dC, dI) vwCl [(q_o, .inr (7, [.int u2_0, .int o_width, .int o_height, .ref q_o_former, .ref q_o_later, .ref q_o_charts, .ref q_o_lows, .ref q_o_highs, .int o_repeats, .int o_wide, .int o_floor, .int o_across_17, .int o_down_18, .long u21_0, .long u21_1, .long o_above, .long o_below, .ref q_o_firsts, .ref q_o_changes, .int o_marked, .int o_spots, .int o_days, .ref q_o_dates, .ref q_o_kept])), (q_o_former, .inl (cI, o_former_n, .inl o_former_f)), (q_o_later, .inl (cI, o_later_n, .inl o_later_f))] H → va_D A [(q_o, .inr (7, [.int u2_0, .int o_width, .int o_height, .ref q_o_former, .ref q_o_later, .ref q_o_charts, .ref q_o_lows, .ref q_o_highs, .int o_repeats, .int o_wide, .int o_floor, .int o_across_17, .int o_down_18, .long u21_0, .long u21_1, .long o_above, .long o_below, .ref q_o_firsts, .ref q_o_changes, .int o_marked, .int o_spots, .int o_days, .ref q_o_dates, .ref q_o_kept])), (q_o_former, .inl (cI, o_former_n, .inl o_former_f)), (q_o_later, .inl (cI, o_later_n, .inl o_later_f))] → va_S A s.heap H locs → W p l e rm_Mod_register s m args below meth c H locs 0 0 Q (F0 m 124 ls [.int j24_25]) := by
                  intro j24_25 H locs ls he hl hP hD hS
                  have h := hx_24
                  rw [he] at h
                  try dsimp only at h
                  refine lv_istore (lv' := [(10, .int j24_25), (9, .int (v22 + v23)), (8, .int x8_16), (7, .int x7_7), (6, .int x6_15), (4, .long x4_14), (2, .long x2_13), (0, .ref q_o), (1, .int a1)]) hx hb d_Mod_register_124 hl (by decide) rfl (fun ls hl => ?_)
                  refine lv_aload_n hx hb d_Mod_register_126 rfl (lv_at hl 7 rfl) ?_
                  refine lv_iload hx hb d_Mod_register_127 (lv_at hl 0 rfl) ?_
                  obtain ⟨j_26, hj_26, hx_26⟩ := pu_bd h
                  have J_26 : ∀ (j26_27 : Int32) (H : Heap) (locs : List Loc) (ls : Array Slot), j_26 = j26_27 → lv_has ls 11 [(10, .int j24_25), (9, .int (v22 + v23)), (8, .int x8_16), (7, .int x7_7), (6, .int x6_15), (4, .long x4_14), (2, .long x2_13), (0, .ref q_o), (1, .int a1)] → va_P (dC, dI) vwCl [(q_o, .inr (7, [.int u2_0, .int o_width, .int o_height, .ref q_o_former, .ref q_o_later, .ref q_o_charts, .ref q_o_lows, .ref q_o_highs, .int o_repeats, .int o_wide, .int o_floor, .int o_across_17, .int o_down_18, .long u21_0, .long u21_1, .long o_above, .long o_below, .ref q_o_firsts, .ref q_o_changes, .int o_marked, .int o_spots, .int o_days, .ref q_o_dates, .ref q_o_kept])), (q_o_former, .inl (cI, o_former_n, .inl o_former_f)), (q_o_later, .inl (cI, o_later_n, .inl o_later_f))] H → va_D A [(q_o, .inr (7, [.int u2_0, .int o_width, .int o_height, .ref q_o_former, .ref q_o_later, .ref q_o_charts, .ref q_o_lows, .ref q_o_highs, .int o_repeats, .int o_wide, .int o_floor, .int o_across_17, .int o_down_18, .long u21_0, .long u21_1, .long o_above, .long o_below, .ref q_o_firsts, .ref q_o_changes, .int o_marked, .int o_spots, .int o_days, .ref q_o_dates, .ref q_o_kept])), (q_o_former, .inl (cI, o_former_n, .inl o_former_f)), (q_o_later, .inl (cI, o_later_n, .inl o_later_f))] → va_S A s.heap H locs → W p l e rm_Mod_register s m args below meth c H locs 0 0 Q (F0 m 141 ls [.int j26_27, .ref q_o]) := by
                    intro j26_27 H locs ls he hl hP hD hS
                    have h := hx_26
                    rw [he] at h
                    try dsimp only at h
                    refine va_put (D := (dC, dI)) (ci := 7) (v := .int j26_27) (ty := .int) (C := R_Mod) (T := F_Mod) (N := 24) hx hb hts i_Mod t_Mod t_Mod_ok n_Mod hown hK hP hD hS 0 rfl rfl 11 (by decide) (hts _ k_619) (fun _ h9 => h9) rfl (by decide +kernel) rfl rfl (Nat.le_of_ble_eq_true rfl) d_Mod_register_141 (fun H locs hP hD hS => ?_)
                    have hP : va_P (dC, dI) vwCl [(q_o, .inr (7, [.int u2_0, .int o_width, .int o_height, .ref q_o_former, .ref q_o_later, .ref q_o_charts, .ref q_o_lows, .ref q_o_highs, .int o_repeats, .int o_wide, .int o_floor, .int j26_27, .int o_down_18, .long u21_0, .long u21_1, .long o_above, .long o_below, .ref q_o_firsts, .ref q_o_changes, .int o_marked, .int o_spots, .int o_days, .ref q_o_dates, .ref q_o_kept])), (q_o_former, .inl (cI, o_former_n, .inl o_former_f)), (q_o_later, .inl (cI, o_later_n, .inl o_later_f))] H := hP
                    have hD : va_D A [(q_o, .inr (7, [.int u2_0, .int o_width, .int o_height, .ref q_o_former, .ref q_o_later, .ref q_o_charts, .ref q_o_lows, .ref q_o_highs, .int o_repeats, .int o_wide, .int o_floor, .int j26_27, .int o_down_18, .long u21_0, .long u21_1, .long o_above, .long o_below, .ref q_o_firsts, .ref q_o_changes, .int o_marked, .int o_spots, .int o_days, .ref q_o_dates, .ref q_o_kept])), (q_o_former, .inl (cI, o_former_n, .inl o_former_f)), (q_o_later, .inl (cI, o_later_n, .inl o_later_f))] := hD
                    refine lv_aload_n hx hb d_Mod_register_144 rfl (lv_at hl 7 rfl) ?_
                    refine lv_iload hx hb d_Mod_register_145 (lv_at hl 0 rfl) ?_
                    obtain ⟨j_28, hj_28, hx_28⟩ := pu_bd h
                    have J_28 : ∀ (j28_29 : Int32) (H : Heap) (locs : List Loc) (ls : Array Slot), j_28 = j28_29 → lv_has ls 11 [(10, .int j24_25), (9, .int (v22 + v23)), (8, .int x8_16), (7, .int x7_7), (6, .int x6_15), (4, .long x4_14), (2, .long x2_13), (0, .ref q_o), (1, .int a1)] → va_P (dC, dI) vwCl [(q_o, .inr (7, [.int u2_0, .int o_width, .int o_height, .ref q_o_former, .ref q_o_later, .ref q_o_charts, .ref q_o_lows, .ref q_o_highs, .int o_repeats, .int o_wide, .int o_floor, .int j26_27, .int o_down_18, .long u21_0, .long u21_1, .long o_above, .long o_below, .ref q_o_firsts, .ref q_o_changes, .int o_marked, .int o_spots, .int o_days, .ref q_o_dates, .ref q_o_kept])), (q_o_former, .inl (cI, o_former_n, .inl o_former_f)), (q_o_later, .inl (cI, o_later_n, .inl o_later_f))] H → va_D A [(q_o, .inr (7, [.int u2_0, .int o_width, .int o_height, .ref q_o_former, .ref q_o_later, .ref q_o_charts, .ref q_o_lows, .ref q_o_highs, .int o_repeats, .int o_wide, .int o_floor, .int j26_27, .int o_down_18, .long u21_0, .long u21_1, .long o_above, .long o_below, .ref q_o_firsts, .ref q_o_changes, .int o_marked, .int o_spots, .int o_days, .ref q_o_dates, .ref q_o_kept])), (q_o_former, .inl (cI, o_former_n, .inl o_former_f)), (q_o_later, .inl (cI, o_later_n, .inl o_later_f))] → va_S A s.heap H locs → W p l e rm_Mod_register s m args below meth c H locs 0 0 Q (F0 m 159 ls [.int j28_29, .ref q_o]) := by
                      intro j28_29 H locs ls he hl hP hD hS
                      have h := hx_28
                      rw [he] at h
                      try dsimp only at h
                      refine va_put (D := (dC, dI)) (ci := 7) (v := .int j28_29) (ty := .int) (C := R_Mod) (T := F_Mod) (N := 24) hx hb hts i_Mod t_Mod t_Mod_ok n_Mod hown hK hP hD hS 0 rfl rfl 12 (by decide) (hts _ k_620) (fun _ h9 => h9) rfl (by decide +kernel) rfl rfl (Nat.le_of_ble_eq_true rfl) d_Mod_register_159 (fun H locs hP hD hS => ?_)
                      have hP : va_P (dC, dI) vwCl [(q_o, .inr (7, [.int u2_0, .int o_width, .int o_height, .ref q_o_former, .ref q_o_later, .ref q_o_charts, .ref q_o_lows, .ref q_o_highs, .int o_repeats, .int o_wide, .int o_floor, .int j26_27, .int j28_29, .long u21_0, .long u21_1, .long o_above, .long o_below, .ref q_o_firsts, .ref q_o_changes, .int o_marked, .int o_spots, .int o_days, .ref q_o_dates, .ref q_o_kept])), (q_o_former, .inl (cI, o_former_n, .inl o_former_f)), (q_o_later, .inl (cI, o_later_n, .inl o_later_f))] H := hP
                      have hD : va_D A [(q_o, .inr (7, [.int u2_0, .int o_width, .int o_height, .ref q_o_former, .ref q_o_later, .ref q_o_charts, .ref q_o_lows, .ref q_o_highs, .int o_repeats, .int o_wide, .int o_floor, .int j26_27, .int j28_29, .long u21_0, .long u21_1, .long o_above, .long o_below, .ref q_o_firsts, .ref q_o_changes, .int o_marked, .int o_spots, .int o_days, .ref q_o_dates, .ref q_o_kept])), (q_o_former, .inl (cI, o_former_n, .inl o_former_f)), (q_o_later, .inl (cI, o_later_n, .inl o_later_f))] := hD
                      refine lv_iload hx hb d_Mod_register_162 (lv_at hl 0 rfl) ?_
                      obtain ⟨j_30, hj_30, hx_30⟩ := pu_bd h
                      have J_30 : ∀ (j30_31 : Int32) (H : Heap) (locs : List Loc) (ls : Array Slot), j_30 = j30_31 → lv_has ls 11 [(10, .int j24_25), (9, .int (v22 + v23)), (8, .int x8_16), (7, .int x7_7), (6, .int x6_15), (4, .long x4_14), (2, .long x2_13), (0, .ref q_o), (1, .int a1)] → va_P (dC, dI) vwCl [(q_o, .inr (7, [.int u2_0, .int o_width, .int o_height, .ref q_o_former, .ref q_o_later, .ref q_o_charts, .ref q_o_lows, .ref q_o_highs, .int o_repeats, .int o_wide, .int o_floor, .int j26_27, .int j28_29, .long u21_0, .long u21_1, .long o_above, .long o_below, .ref q_o_firsts, .ref q_o_changes, .int o_marked, .int o_spots, .int o_days, .ref q_o_dates, .ref q_o_kept])), (q_o_former, .inl (cI, o_former_n, .inl o_former_f)), (q_o_later, .inl (cI, o_later_n, .inl o_later_f))] H → va_D A [(q_o, .inr (7, [.int u2_0, .int o_width, .int o_height, .ref q_o_former, .ref q_o_later, .ref q_o_charts, .ref q_o_lows, .ref q_o_highs, .int o_repeats, .int o_wide, .int o_floor, .int j26_27, .int j28_29, .long u21_0, .long u21_1, .long o_above, .long o_below, .ref q_o_firsts, .ref q_o_changes, .int o_marked, .int o_spots, .int o_days, .ref q_o_dates, .ref q_o_kept])), (q_o_former, .inl (cI, o_former_n, .inl o_former_f)), (q_o_later, .inl (cI, o_later_n, .inl o_later_f))] → va_S A s.heap H locs → W p l e rm_Mod_register s m args below meth c H locs 0 0 Q (F0 m 174 ls [.int j30_31]) := by
                        intro j30_31 H locs ls he hl hP hD hS
                        have h := hx_30
                        rw [he] at h
                        try dsimp only at h
                        refine lv_istore (lv' := [(6, .int j30_31), (10, .int j24_25), (9, .int (v22 + v23)), (8, .int x8_16), (7, .int x7_7), (4, .long x4_14), (2, .long x2_13), (0, .ref q_o), (1, .int a1)]) hx hb d_Mod_register_174 hl (by decide) rfl (fun ls hl => ?_)
                        refine lv_iload hx hb d_Mod_register_176 (lv_at hl 1 rfl) ?_
                        obtain ⟨j_32, hj_32, hx_32⟩ := pu_bd h
                        have J_32 : ∀ (j32_33 : Int64) (H : Heap) (locs : List Loc) (ls : Array Slot), j_32 = j32_33 → lv_has ls 11 [(6, .int j30_31), (10, .int j24_25), (9, .int (v22 + v23)), (8, .int x8_16), (7, .int x7_7), (4, .long x4_14), (2, .long x2_13), (0, .ref q_o), (1, .int a1)] → va_P (dC, dI) vwCl [(q_o, .inr (7, [.int u2_0, .int o_width, .int o_height, .ref q_o_former, .ref q_o_later, .ref q_o_charts, .ref q_o_lows, .ref q_o_highs, .int o_repeats, .int o_wide, .int o_floor, .int j26_27, .int j28_29, .long u21_0, .long u21_1, .long o_above, .long o_below, .ref q_o_firsts, .ref q_o_changes, .int o_marked, .int o_spots, .int o_days, .ref q_o_dates, .ref q_o_kept])), (q_o_former, .inl (cI, o_former_n, .inl o_former_f)), (q_o_later, .inl (cI, o_later_n, .inl o_later_f))] H → va_D A [(q_o, .inr (7, [.int u2_0, .int o_width, .int o_height, .ref q_o_former, .ref q_o_later, .ref q_o_charts, .ref q_o_lows, .ref q_o_highs, .int o_repeats, .int o_wide, .int o_floor, .int j26_27, .int j28_29, .long u21_0, .long u21_1, .long o_above, .long o_below, .ref q_o_firsts, .ref q_o_changes, .int o_marked, .int o_spots, .int o_days, .ref q_o_dates, .ref q_o_kept])), (q_o_former, .inl (cI, o_former_n, .inl o_former_f)), (q_o_later, .inl (cI, o_later_n, .inl o_later_f))] → va_S A s.heap H locs → W p l e rm_Mod_register s m args below meth c H locs 0 0 Q (F0 m 189 ls [.long j32_33]) := by
                          intro j32_33 H locs ls he hl hP hD hS
                          have h := hx_32
                          rw [he] at h
                          try dsimp only at h
                          refine lv_lstore_n (lv' := [(2, .long j32_33), (6, .int j30_31), (10, .int j24_25), (9, .int (v22 + v23)), (8, .int x8_16), (7, .int x7_7), (4, .long x4_14), (0, .ref q_o), (1, .int a1)]) hx hb d_Mod_register_189 rfl hl (by decide) rfl (fun ls hl => ?_)
                          refine lv_iload hx hb d_Mod_register_190 (lv_at hl 2 rfl) ?_
                          refine lv_if_eq (tgt := 202) hx hb d_Mod_register_192 (by decide) (fun hc => ?_) (fun hc => ?_)
                          · have h := pu_t hc h
                            refine lv_lload hx hb d_Mod_register_202 (lv_at hl 6 rfl) ?_
                            refine lv_lstore (lv' := [(4, .long x4_14), (2, .long j32_33), (6, .int j30_31), (10, .int j24_25), (9, .int (v22 + v23)), (8, .int x8_16), (7, .int x7_7), (0, .ref q_o), (1, .int a1)]) hx hb d_Mod_register_204 hl (by decide) rfl (fun ls hl => ?_)
                            refine lv_iinc (v := (x8_16 + 1)) (lv' := [(8, .int (x8_16 + 1)), (4, .long x4_14), (2, .long j32_33), (6, .int j30_31), (10, .int j24_25), (9, .int (v22 + v23)), (7, .int x7_7), (0, .ref q_o), (1, .int a1)]) hx hb d_Mod_register_206 hl (k := 5) rfl rfl (by decide) rfl (fun ls hl => ?_)
                            refine lv_goto (tgt := 43) hx hb d_Mod_register_209 (by decide) ?_
                            cases h
                            exact ih j32_33 x4_14 j30_31 (x8_16 + 1) j26_27 j28_29 u21_0 u21_1 H locs ls hr_12 (lv_sub hl [0, 6, 3, 1, 2, 7, 8] rfl) (hP.sub [1, 2, 0] rfl) (hD.sub [1, 2, 0] (by decide) rfl) hS
                          · have h := pu_f hc h
                            refine lv_aload_n hx hb d_Mod_register_195 rfl (lv_at hl 7 rfl) ?_
                            refine va_get (D := (dC, dI)) (ci := 7) (v := .long u21_1) (C := R_Mod) (T := F_Mod) (N := 24) hx hb hts i_Mod hown hK hP 0 rfl rfl 14 (by decide) (hts _ k_622) (fun _ h9 => h9) rfl d_Mod_register_196 ?_
                            refine lv_goto (tgt := 204) hx hb d_Mod_register_199 (by decide) ?_
                            refine lv_lstore (lv' := [(4, .long u21_1), (2, .long j32_33), (6, .int j30_31), (10, .int j24_25), (9, .int (v22 + v23)), (8, .int x8_16), (7, .int x7_7), (0, .ref q_o), (1, .int a1)]) hx hb d_Mod_register_204 hl (by decide) rfl (fun ls hl => ?_)
                            refine lv_iinc (v := (x8_16 + 1)) (lv' := [(8, .int (x8_16 + 1)), (4, .long u21_1), (2, .long j32_33), (6, .int j30_31), (10, .int j24_25), (9, .int (v22 + v23)), (7, .int x7_7), (0, .ref q_o), (1, .int a1)]) hx hb d_Mod_register_206 hl (k := 5) rfl rfl (by decide) rfl (fun ls hl => ?_)
                            refine lv_goto (tgt := 43) hx hb d_Mod_register_209 (by decide) ?_
                            cases h
                            exact ih j32_33 u21_1 j30_31 (x8_16 + 1) j26_27 j28_29 u21_0 u21_1 H locs ls hr_12 (lv_sub hl [0, 6, 3, 1, 2, 7, 8] rfl) (hP.sub [1, 2, 0] rfl) (hD.sub [1, 2, 0] (by decide) rfl) hS
                        have h := hj_32
                        refine lv_if_eq (tgt := 188) hx hb d_Mod_register_178 (by decide) (fun hc => ?_) (fun hc => ?_)
                        · have h := pu_t hc h
                          refine lv_lload_n hx hb d_Mod_register_188 rfl (lv_at hl 6 rfl) ?_
                          exact J_32 x2_13 H locs ls (Option.some.inj h).symm (lv_sub hl [0, 1, 2, 3, 4, 5, 6, 7, 8] rfl) (hP.sub [0, 1, 2] rfl) (hD.sub [0, 1, 2] (by decide) rfl) hS
                        · have h := pu_f hc h
                          refine lv_aload_n hx hb d_Mod_register_181 rfl (lv_at hl 7 rfl) ?_
                          refine va_get (D := (dC, dI)) (ci := 7) (v := .long u21_0) (C := R_Mod) (T := F_Mod) (N := 24) hx hb hts i_Mod hown hK hP 0 rfl rfl 13 (by decide) (hts _ k_621) (fun _ h9 => h9) rfl d_Mod_register_182 ?_
                          refine lv_goto (tgt := 189) hx hb d_Mod_register_185 (by decide) ?_
                          exact J_32 u21_0 H locs ls (Option.some.inj h).symm (lv_sub hl [0, 1, 2, 3, 4, 5, 6, 7, 8] rfl) (hP.sub [0, 1, 2] rfl) (hD.sub [0, 1, 2] (by decide) rfl) hS
                      have h := hj_30
                      refine lv_if_eq (tgt := 172) hx hb d_Mod_register_164 (by decide) (fun hc => ?_) (fun hc => ?_)
                      · have h := pu_t hc h
                        refine lv_iload hx hb d_Mod_register_172 (lv_at hl 4 rfl) ?_
                        exact J_30 x6_15 H locs ls (Option.some.inj h).symm (lv_sub hl [0, 1, 2, 3, 4, 5, 6, 7, 8] rfl) (hP.sub [0, 1, 2] rfl) (hD.sub [0, 1, 2] (by decide) rfl) hS
                      · have h := pu_f hc h
                        refine lv_iload hx hb d_Mod_register_167 (lv_at hl 1 rfl) ?_
                        refine lv_goto (tgt := 174) hx hb d_Mod_register_169 (by decide) ?_
                        exact J_30 (v22 + v23) H locs ls (Option.some.inj h).symm (lv_sub hl [0, 1, 2, 3, 4, 5, 6, 7, 8] rfl) (hP.sub [0, 1, 2] rfl) (hD.sub [0, 1, 2] (by decide) rfl) hS
                    have h := hj_28
                    refine lv_if_eq (tgt := 155) hx hb d_Mod_register_147 (by decide) (fun hc => ?_) (fun hc => ?_)
                    · have h := pu_t hc h
                      refine lv_aload_n hx hb d_Mod_register_155 rfl (lv_at hl 7 rfl) ?_
                      refine va_get (D := (dC, dI)) (ci := 7) (v := .int o_down_18) (C := R_Mod) (T := F_Mod) (N := 24) hx hb hts i_Mod hown hK hP 0 rfl rfl 12 (by decide) (hts _ k_620) (fun _ h9 => h9) rfl d_Mod_register_156 ?_
                      exact J_28 o_down_18 H locs ls (Option.some.inj h).symm (lv_sub hl [0, 1, 2, 3, 4, 5, 6, 7, 8] rfl) (hP.sub [0, 1, 2] rfl) (hD.sub [0, 1, 2] (by decide) rfl) hS
                    · have h := pu_f hc h
                      refine lv_iload hx hb d_Mod_register_150 (lv_at hl 2 rfl) ?_
                      refine lv_goto (tgt := 159) hx hb d_Mod_register_152 (by decide) ?_
                      exact J_28 x8_16 H locs ls (Option.some.inj h).symm (lv_sub hl [0, 1, 2, 3, 4, 5, 6, 7, 8] rfl) (hP.sub [0, 1, 2] rfl) (hD.sub [0, 1, 2] (by decide) rfl) hS
                  have h := hj_26
                  refine lv_if_eq (tgt := 137) hx hb d_Mod_register_129 (by decide) (fun hc => ?_) (fun hc => ?_)
                  · have h := pu_t hc h
                    refine lv_aload_n hx hb d_Mod_register_137 rfl (lv_at hl 7 rfl) ?_
                    refine va_get (D := (dC, dI)) (ci := 7) (v := .int o_across_17) (C := R_Mod) (T := F_Mod) (N := 24) hx hb hts i_Mod hown hK hP 0 rfl rfl 11 (by decide) (hts _ k_619) (fun _ h9 => h9) rfl d_Mod_register_138 ?_
                    exact J_26 o_across_17 H locs ls (Option.some.inj h).symm (lv_sub hl [0, 1, 2, 3, 4, 5, 6, 7, 8] rfl) (hP.sub [0, 1, 2] rfl) (hD.sub [0, 1, 2] (by decide) rfl) hS
                  · have h := pu_f hc h
                    refine lv_iload hx hb d_Mod_register_132 (lv_at hl 3 rfl) ?_
                    refine lv_goto (tgt := 141) hx hb d_Mod_register_134 (by decide) ?_
                    exact J_26 x7_7 H locs ls (Option.some.inj h).symm (lv_sub hl [0, 1, 2, 3, 4, 5, 6, 7, 8] rfl) (hP.sub [0, 1, 2] rfl) (hD.sub [0, 1, 2] (by decide) rfl) hS
                have h := hj_24
                refine lv_if_lt (tgt := 119) hx hb d_Mod_register_75 (by decide) (fun hc => ?_) (fun hc => ?_)
                · have h := pu_t hc h
                  refine lv_iconst (v := 1) hx hb d_Mod_register_119 (by decide) ?_
                  refine lv_goto (tgt := 124) hx hb d_Mod_register_120 (by decide) ?_
                  exact J_24 1 H locs ls (Option.some.inj h).symm (lv_sub hl [0, 1, 2, 3, 4, 5, 6, 7] rfl) (hP.sub [0, 1, 2] rfl) (hD.sub [0, 1, 2] (by decide) rfl) hS
                · have h := pu_f hc h
                  refine lv_aload_n hx hb d_Mod_register_78 rfl (lv_at hl 6 rfl) ?_
                  refine va_get (D := (dC, dI)) (ci := 7) (v := .long u21_0) (C := R_Mod) (T := F_Mod) (N := 24) hx hb hts i_Mod hown hK hP 0 rfl rfl 13 (by decide) (hts _ k_621) (fun _ h9 => h9) rfl d_Mod_register_79 ?_
                  refine lv_lload hx hb d_Mod_register_82 (lv_at hl 4 rfl) ?_
                  refine lv_lmul hx hb d_Mod_register_84 ?_
                  refine lv_lload_n hx hb d_Mod_register_85 rfl (lv_at hl 5 rfl) ?_
                  refine lv_aload_n hx hb d_Mod_register_86 rfl (lv_at hl 6 rfl) ?_
                  refine va_get (D := (dC, dI)) (ci := 7) (v := .long u21_1) (C := R_Mod) (T := F_Mod) (N := 24) hx hb hts i_Mod hown hK hP 0 rfl rfl 14 (by decide) (hts _ k_622) (fun _ h9 => h9) rfl d_Mod_register_87 ?_
                  refine lv_lmul hx hb d_Mod_register_90 ?_
                  refine W.lcmp hx hb d_Mod_register_91 ?_
                  refine lv_if_lt (tgt := 119) hx hb d_Mod_register_92 (by decide) (fun hc => ?_) (fun hc => ?_)
                  · have h := pu_t hc h
                    refine lv_iconst (v := 1) hx hb d_Mod_register_119 (by decide) ?_
                    refine lv_goto (tgt := 124) hx hb d_Mod_register_120 (by decide) ?_
                    exact J_24 1 H locs ls (Option.some.inj h).symm (lv_sub hl [0, 1, 2, 3, 4, 5, 6, 7] rfl) (hP.sub [0, 1, 2] rfl) (hD.sub [0, 1, 2] (by decide) rfl) hS
                  · have h := pu_f hc h
                    refine lv_aload_n hx hb d_Mod_register_95 rfl (lv_at hl 6 rfl) ?_
                    refine va_get (D := (dC, dI)) (ci := 7) (v := .long u21_0) (C := R_Mod) (T := F_Mod) (N := 24) hx hb hts i_Mod hown hK hP 0 rfl rfl 13 (by decide) (hts _ k_621) (fun _ h9 => h9) rfl d_Mod_register_96 ?_
                    refine lv_lload hx hb d_Mod_register_99 (lv_at hl 4 rfl) ?_
                    refine lv_lmul hx hb d_Mod_register_101 ?_
                    refine lv_lload_n hx hb d_Mod_register_102 rfl (lv_at hl 5 rfl) ?_
                    refine lv_aload_n hx hb d_Mod_register_103 rfl (lv_at hl 6 rfl) ?_
                    refine va_get (D := (dC, dI)) (ci := 7) (v := .long u21_1) (C := R_Mod) (T := F_Mod) (N := 24) hx hb hts i_Mod hown hK hP 0 rfl rfl 14 (by decide) (hts _ k_622) (fun _ h9 => h9) rfl d_Mod_register_104 ?_
                    refine lv_lmul hx hb d_Mod_register_107 ?_
                    refine W.lcmp hx hb d_Mod_register_108 ?_
                    refine lv_if_ne (tgt := 123) hx hb d_Mod_register_109 (by decide) (fun hc => ?_) (fun hc => ?_)
                    · have h := pu_f hc h
                      refine lv_iconst (v := 0) hx hb d_Mod_register_123 (by decide) ?_
                      exact J_24 0 H locs ls (Option.some.inj h).symm (lv_sub hl [0, 1, 2, 3, 4, 5, 6, 7] rfl) (hP.sub [0, 1, 2] rfl) (hD.sub [0, 1, 2] (by decide) rfl) hS
                    · have h := pu_t hc h
                      refine lv_iload hx hb d_Mod_register_112 (lv_at hl 0 rfl) ?_
                      refine lv_iload hx hb d_Mod_register_114 (lv_at hl 3 rfl) ?_
                      refine lv_icmp_ge (tgt := 123) hx hb d_Mod_register_116 (by decide) (fun hc => ?_) (fun hc => ?_)
                      · have h := pu_t hc h
                        refine lv_iconst (v := 0) hx hb d_Mod_register_123 (by decide) ?_
                        exact J_24 0 H locs ls (Option.some.inj h).symm (lv_sub hl [0, 1, 2, 3, 4, 5, 6, 7] rfl) (hP.sub [0, 1, 2] rfl) (hD.sub [0, 1, 2] (by decide) rfl) hS
                      · have h := pu_f hc h
                        refine lv_iconst (v := 1) hx hb d_Mod_register_119 (by decide) ?_
                        refine lv_goto (tgt := 124) hx hb d_Mod_register_120 (by decide) ?_
                        exact J_24 1 H locs ls (Option.some.inj h).symm (lv_sub hl [0, 1, 2, 3, 4, 5, 6, 7] rfl) (hP.sub [0, 1, 2] rfl) (hD.sub [0, 1, 2] (by decide) rfl) hS
          exact L_12 n_12 x2_4 x4_5 x6_6 (0 - a1) o_across_8 o_down_9 o_sum_10 o_many_11 H locs ls hn_12 hl hP hD hS
    exact L_3 n_3 (-1) 1 0 (0 - a1) o_across o_down o_sum o_many H locs ls hn_3 hl hP hD hS
  · have h := pu_t hc h
    refine lv_iconst (v := 0) hx hb d_Mod_register_15 (by decide) ?_
    cases h
    refine W.widen (k := 0) (n := 0) (Nat.le_of_ble_eq_true rfl) (Nat.le_of_ble_eq_true rfl) ?_
    exact RT 16 ls H locs _ d_Mod_register_16 (Or.inr (Or.inl ⟨rfl, _, rfl⟩)) rfl (hP.sub [2, 0, 1] rfl) (hD.sub [2, 0, 1] (by decide) rfl) hS

noncomputable def p_Mod_shift (a1 : Int32) (o_thrown : Int32) (o_width : Int32) (o_height : Int32) (o_repeats : Int32) (o_wide : Int32) (o_floor : Int32) (o_across : Int32) (o_down : Int32) (o_sum : Int64) (o_many : Int64) (o_above : Int64) (o_below : Int64) (o_marked : Int32) (o_spots : Int32) (o_days : Int32) : Option (Int32 × Int32) :=
  (p_Mod_within a1 0 1).bind (fun (v1 : Int32) => (p_Mod_goes v1 1 1 o_thrown o_width o_height o_repeats o_wide o_floor o_across o_down o_sum o_many o_above o_below o_marked o_spots o_days).bind (fun ((v2, u2_0) : Int32 × Int32) => (if v2 = 0 then some (0, u2_0) else (if a1 = 0 then some (o_across, u2_0) else some (o_down, u2_0)))))
set_option maxHeartbeats 4000000 in
set_option maxRecDepth 100000 in
theorem c_Mod_shift (l : Launch) (dC : Nat → ClassId) (dI : Nat → Nat → Nat) (cI cJ cZ : ClassId) (q_o q_o_former q_o_later q_o_charts q_o_lows q_o_highs q_o_firsts q_o_changes q_o_dates q_o_kept : Nat) (a1 : Int32) (o_thrown : Int32) (o_width : Int32) (o_height : Int32) (o_repeats : Int32) (o_wide : Int32) (o_floor : Int32) (o_across : Int32) (o_down : Int32) (o_sum : Int64) (o_many : Int64) (o_above : Int64) (o_below : Int64) (o_marked : Int32) (o_spots : Int32) (o_days : Int32) (r0 : Int32) (r1 : Int32) (h : p_Mod_shift a1 o_thrown o_width o_height o_repeats o_wide o_floor o_across o_down o_sum o_many o_above o_below o_marked o_spots o_days = some (r0, r1)) : ct l y_Mod_shift w_Mod_shift rm_Mod_shift (dC, dI) [(cI, .int), (cJ, .long), (cZ, .boolean)] [.ref q_o, .int a1] [(q_o, .inr (7, [.int o_thrown, .int o_width, .int o_height, .ref q_o_former, .ref q_o_later, .ref q_o_charts, .ref q_o_lows, .ref q_o_highs, .int o_repeats, .int o_wide, .int o_floor, .int o_across, .int o_down, .long o_sum, .long o_many, .long o_above, .long o_below, .ref q_o_firsts, .ref q_o_changes, .int o_marked, .int o_spots, .int o_days, .ref q_o_dates, .ref q_o_kept]))] (fun w => w = [(q_o, .inr (7, [.int r1, .int o_width, .int o_height, .ref q_o_former, .ref q_o_later, .ref q_o_charts, .ref q_o_lows, .ref q_o_highs, .int o_repeats, .int o_wide, .int o_floor, .int o_across, .int o_down, .long o_sum, .long o_many, .long o_above, .long o_below, .ref q_o_firsts, .ref q_o_changes, .int o_marked, .int o_spots, .int o_days, .ref q_o_dates, .ref q_o_kept]))]) (some (.int r0)) := by
  refine ct_of (cc := b_Mod_shift) (maxL := 2) (ret := (some .int)) (lv := [(0, .ref q_o), (1, .int a1)]) (by decide) rfl rfl rfl ?_
  intro p e s m args below meth c A Q H locs hx hb hml hown hts hin hA hK hN hP hD hS RT ls hl
  unfold p_Mod_shift at h
  refine lv_aload_n hx hb d_Mod_shift_0 rfl (lv_at hl 0 rfl) ?_
  refine lv_iload_n hx hb d_Mod_shift_1 rfl (lv_at hl 1 rfl) ?_
  refine lv_iconst (v := 0) hx hb d_Mod_shift_2 (by decide) ?_
  refine lv_iconst (v := 1) hx hb d_Mod_shift_3 (by decide) ?_
  obtain ⟨v1, hu1, h⟩ := pu_bd h
  refine cc_S (As := [.int a1, .int 0, .int 1]) (rest := [.ref q_o]) ⟨hx, hb, hml, hown, hts⟩ (c_Mod_within l dC dI cI cJ cZ a1 0 1 v1 hu1) (cwS 3 hts (gS k_694 k_695 k_9 k_696 rfl) rfl rfl rfl hdV_Mod_within ⟨Nat.le_of_ble_eq_true rfl, Nat.le_of_ble_eq_true rfl⟩) hK hN hP hD hS hA [] [0] (w0 := []) (wr := [(q_o, .inr (7, [.int o_thrown, .int o_width, .int o_height, .ref q_o_former, .ref q_o_later, .ref q_o_charts, .ref q_o_lows, .ref q_o_highs, .int o_repeats, .int o_wide, .int o_floor, .int o_across, .int o_down, .long o_sum, .long o_many, .long o_above, .long o_below, .ref q_o_firsts, .ref q_o_changes, .int o_marked, .int o_spots, .int o_days, .ref q_o_dates, .ref q_o_kept]))]) rfl rfl (by decide) (by decide) (by decide) rfl hl.1 rfl (Nat.le_of_ble_eq_true rfl) d_Mod_shift_4 ⟨Nat.le_of_ble_eq_true rfl, Nat.le_of_ble_eq_true rfl⟩ (fun w1 H locs hw1 hP hD hS => ?_)
  subst hw1
  have hP : va_P (dC, dI) vwCl [(q_o, .inr (7, [.int o_thrown, .int o_width, .int o_height, .ref q_o_former, .ref q_o_later, .ref q_o_charts, .ref q_o_lows, .ref q_o_highs, .int o_repeats, .int o_wide, .int o_floor, .int o_across, .int o_down, .long o_sum, .long o_many, .long o_above, .long o_below, .ref q_o_firsts, .ref q_o_changes, .int o_marked, .int o_spots, .int o_days, .ref q_o_dates, .ref q_o_kept]))] H := hP
  have hD : va_D A [(q_o, .inr (7, [.int o_thrown, .int o_width, .int o_height, .ref q_o_former, .ref q_o_later, .ref q_o_charts, .ref q_o_lows, .ref q_o_highs, .int o_repeats, .int o_wide, .int o_floor, .int o_across, .int o_down, .long o_sum, .long o_many, .long o_above, .long o_below, .ref q_o_firsts, .ref q_o_changes, .int o_marked, .int o_spots, .int o_days, .ref q_o_dates, .ref q_o_kept]))] := hD
  refine lv_iconst (v := 1) hx hb d_Mod_shift_7 (by decide) ?_
  refine lv_iconst (v := 1) hx hb d_Mod_shift_8 (by decide) ?_
  obtain ⟨⟨v2, u2_0⟩, hu2, h⟩ := pu_bd h
  try dsimp only at h
  refine cc_V (As := [.int v1, .int 1, .int 1]) (rest := []) ⟨hx, hb, hml, hown, hts⟩ (c_Mod_goes l dC dI cI cJ cZ q_o q_o_former q_o_later q_o_charts q_o_lows q_o_highs q_o_firsts q_o_changes q_o_dates q_o_kept v1 1 1 o_thrown o_width o_height o_repeats o_wide o_floor o_across o_down o_sum o_many o_above o_below o_marked o_spots o_days v2 u2_0 hu2) (cwV 3 hts (gV k_697 k_699 kp_16 k_9 k_700 rfl) rfl rfl rfl hdV_Mod_goes ⟨Nat.le_of_ble_eq_true rfl, Nat.le_of_ble_eq_true rfl⟩) hK hN hP hD hS hA [0] [] (w0 := [(q_o, .inr (7, [.int o_thrown, .int o_width, .int o_height, .ref q_o_former, .ref q_o_later, .ref q_o_charts, .ref q_o_lows, .ref q_o_highs, .int o_repeats, .int o_wide, .int o_floor, .int o_across, .int o_down, .long o_sum, .long o_many, .long o_above, .long o_below, .ref q_o_firsts, .ref q_o_changes, .int o_marked, .int o_spots, .int o_days, .ref q_o_dates, .ref q_o_kept]))]) (wr := []) rfl rfl (by decide) (by decide) (by decide) 7 rfl rfl rfl hl.1 rfl (Nat.le_of_ble_eq_true rfl) d_Mod_shift_9 ⟨Nat.le_of_ble_eq_true rfl, Nat.le_of_ble_eq_true rfl⟩ (fun w1 H locs hw1 hP hD hS => ?_)
  subst hw1
  have hP : va_P (dC, dI) vwCl [(q_o, .inr (7, [.int u2_0, .int o_width, .int o_height, .ref q_o_former, .ref q_o_later, .ref q_o_charts, .ref q_o_lows, .ref q_o_highs, .int o_repeats, .int o_wide, .int o_floor, .int o_across, .int o_down, .long o_sum, .long o_many, .long o_above, .long o_below, .ref q_o_firsts, .ref q_o_changes, .int o_marked, .int o_spots, .int o_days, .ref q_o_dates, .ref q_o_kept]))] H := hP
  have hD : va_D A [(q_o, .inr (7, [.int u2_0, .int o_width, .int o_height, .ref q_o_former, .ref q_o_later, .ref q_o_charts, .ref q_o_lows, .ref q_o_highs, .int o_repeats, .int o_wide, .int o_floor, .int o_across, .int o_down, .long o_sum, .long o_many, .long o_above, .long o_below, .ref q_o_firsts, .ref q_o_changes, .int o_marked, .int o_spots, .int o_days, .ref q_o_dates, .ref q_o_kept]))] := hD
  refine lv_if_ne (tgt := 17) hx hb d_Mod_shift_12 (by decide) (fun hc => ?_) (fun hc => ?_)
  · have h := pu_f hc h
    refine lv_iload_n hx hb d_Mod_shift_17 rfl (lv_at hl 1 rfl) ?_
    refine lv_if_ne (tgt := 28) hx hb d_Mod_shift_18 (by decide) (fun hc => ?_) (fun hc => ?_)
    · have h := pu_f hc h
      refine lv_aload_n hx hb d_Mod_shift_28 rfl (lv_at hl 0 rfl) ?_
      refine va_get (D := (dC, dI)) (ci := 7) (v := .int o_down) (C := R_Mod) (T := F_Mod) (N := 24) hx hb hts i_Mod hown hK hP 0 rfl rfl 12 (by decide) (hts _ k_620) (fun _ h9 => h9) rfl d_Mod_shift_29 ?_
      cases h
      refine W.widen (k := 0) (n := 0) (Nat.le_of_ble_eq_true rfl) (Nat.le_of_ble_eq_true rfl) ?_
      exact RT 32 ls H locs _ d_Mod_shift_32 (Or.inr (Or.inl ⟨rfl, _, rfl⟩)) rfl (hP.sub [0] rfl) (hD.sub [0] (by decide) rfl) hS
    · have h := pu_t hc h
      refine lv_aload_n hx hb d_Mod_shift_21 rfl (lv_at hl 0 rfl) ?_
      refine va_get (D := (dC, dI)) (ci := 7) (v := .int o_across) (C := R_Mod) (T := F_Mod) (N := 24) hx hb hts i_Mod hown hK hP 0 rfl rfl 11 (by decide) (hts _ k_619) (fun _ h9 => h9) rfl d_Mod_shift_22 ?_
      refine lv_goto (tgt := 32) hx hb d_Mod_shift_25 (by decide) ?_
      cases h
      refine W.widen (k := 0) (n := 0) (Nat.le_of_ble_eq_true rfl) (Nat.le_of_ble_eq_true rfl) ?_
      exact RT 32 ls H locs _ d_Mod_shift_32 (Or.inr (Or.inl ⟨rfl, _, rfl⟩)) rfl (hP.sub [0] rfl) (hD.sub [0] (by decide) rfl) hS
  · have h := pu_t hc h
    refine lv_iconst (v := 0) hx hb d_Mod_shift_15 (by decide) ?_
    cases h
    refine W.widen (k := 0) (n := 0) (Nat.le_of_ble_eq_true rfl) (Nat.le_of_ble_eq_true rfl) ?_
    exact RT 16 ls H locs _ d_Mod_shift_16 (Or.inr (Or.inl ⟨rfl, _, rfl⟩)) rfl (hP.sub [0] rfl) (hD.sub [0] (by decide) rfl) hS

noncomputable def p_Mod_chartsNow_L1 (o_charts_n : Nat) (o_charts_f : Nat → Int32) : (Int32 × Int32) → Option ((Int32 × Int32) ⊕ (Int32 × Int32)) := fun ((x1_2, x2_3) : Int32 × Int32) =>
  (if 576 ≤ x2_3 then some (.inr (x1_2, x2_3)) else pu_gd (vp_in x2_3 o_charts_n) ((if (o_charts_f x2_3.toNatClampNeg) = 0 then some (.inl (x1_2, (x2_3 + 1))) else some (.inl ((x1_2 + 1), (x2_3 + 1))))))
noncomputable def p_Mod_chartsNow (o_thrown : Int32) (o_width : Int32) (o_height : Int32) (o_repeats : Int32) (o_wide : Int32) (o_floor : Int32) (o_across : Int32) (o_down : Int32) (o_sum : Int64) (o_many : Int64) (o_above : Int64) (o_below : Int64) (o_marked : Int32) (o_spots : Int32) (o_days : Int32) (o_charts_n : Nat) (o_charts_f : Nat → Int32) : Option (Int32) :=
  (pu_loop (p_Mod_chartsNow_L1 o_charts_n o_charts_f) (0, 0)).bind (fun ((y1_4, y2_5) : Int32 × Int32) => some y1_4)
set_option maxHeartbeats 4000000 in
set_option maxRecDepth 100000 in
theorem c_Mod_chartsNow (l : Launch) (dC : Nat → ClassId) (dI : Nat → Nat → Nat) (cI cJ cZ : ClassId) (q_o q_o_former q_o_later q_o_charts q_o_lows q_o_highs q_o_firsts q_o_changes q_o_dates q_o_kept : Nat) (o_thrown : Int32) (o_width : Int32) (o_height : Int32) (o_repeats : Int32) (o_wide : Int32) (o_floor : Int32) (o_across : Int32) (o_down : Int32) (o_sum : Int64) (o_many : Int64) (o_above : Int64) (o_below : Int64) (o_marked : Int32) (o_spots : Int32) (o_days : Int32) (o_charts_n : Nat) (o_charts_f : Nat → Int32) (r0 : Int32) (h : p_Mod_chartsNow o_thrown o_width o_height o_repeats o_wide o_floor o_across o_down o_sum o_many o_above o_below o_marked o_spots o_days o_charts_n o_charts_f = some r0) : ct l y_Mod_chartsNow w_Mod_chartsNow rm_Mod_chartsNow (dC, dI) [(cI, .int), (cJ, .long), (cZ, .boolean)] [.ref q_o] [(q_o, .inr (7, [.int o_thrown, .int o_width, .int o_height, .ref q_o_former, .ref q_o_later, .ref q_o_charts, .ref q_o_lows, .ref q_o_highs, .int o_repeats, .int o_wide, .int o_floor, .int o_across, .int o_down, .long o_sum, .long o_many, .long o_above, .long o_below, .ref q_o_firsts, .ref q_o_changes, .int o_marked, .int o_spots, .int o_days, .ref q_o_dates, .ref q_o_kept])), (q_o_charts, .inl (cZ, o_charts_n, .inl o_charts_f))] (fun w => w = [(q_o, .inr (7, [.int o_thrown, .int o_width, .int o_height, .ref q_o_former, .ref q_o_later, .ref q_o_charts, .ref q_o_lows, .ref q_o_highs, .int o_repeats, .int o_wide, .int o_floor, .int o_across, .int o_down, .long o_sum, .long o_many, .long o_above, .long o_below, .ref q_o_firsts, .ref q_o_changes, .int o_marked, .int o_spots, .int o_days, .ref q_o_dates, .ref q_o_kept])), (q_o_charts, .inl (cZ, o_charts_n, .inl o_charts_f))]) (some (.int r0)) := by
  refine ct_of (cc := b_Mod_chartsNow) (maxL := 3) (ret := (some .int)) (lv := [(0, .ref q_o)]) (by decide) rfl rfl rfl ?_
  intro p e s m args below meth c A Q H locs hx hb hml hown hts hin hA hK hN hP hD hS RT ls hl
  unfold p_Mod_chartsNow at h
  refine lv_iconst (v := 0) hx hb d_Mod_chartsNow_0 (by decide) ?_
  refine lv_istore_n (lv' := [(1, .int 0), (0, .ref q_o)]) hx hb d_Mod_chartsNow_1 rfl hl (by decide) rfl (fun ls hl => ?_)
  refine lv_iconst (v := 0) hx hb d_Mod_chartsNow_2 (by decide) ?_
  refine lv_istore_n (lv' := [(2, .int 0), (1, .int 0), (0, .ref q_o)]) hx hb d_Mod_chartsNow_3 rfl hl (by decide) rfl (fun ls hl => ?_)
  obtain ⟨e_1, he_1, hx_1⟩ := pu_bd h
  obtain ⟨n_1, hn_1⟩ := pu_loop_it he_1
  have K_1 : ∀ (y1_4 : Int32) (y2_5 : Int32) (H : Heap) (locs : List Loc) (ls : Array Slot), e_1 = (y1_4, y2_5) → lv_has ls 3 [(2, .int y2_5), (1, .int y1_4), (0, .ref q_o)] → va_P (dC, dI) vwCl [(q_o, .inr (7, [.int o_thrown, .int o_width, .int o_height, .ref q_o_former, .ref q_o_later, .ref q_o_charts, .ref q_o_lows, .ref q_o_highs, .int o_repeats, .int o_wide, .int o_floor, .int o_across, .int o_down, .long o_sum, .long o_many, .long o_above, .long o_below, .ref q_o_firsts, .ref q_o_changes, .int o_marked, .int o_spots, .int o_days, .ref q_o_dates, .ref q_o_kept])), (q_o_charts, .inl (cZ, o_charts_n, .inl o_charts_f))] H → va_D A [(q_o, .inr (7, [.int o_thrown, .int o_width, .int o_height, .ref q_o_former, .ref q_o_later, .ref q_o_charts, .ref q_o_lows, .ref q_o_highs, .int o_repeats, .int o_wide, .int o_floor, .int o_across, .int o_down, .long o_sum, .long o_many, .long o_above, .long o_below, .ref q_o_firsts, .ref q_o_changes, .int o_marked, .int o_spots, .int o_days, .ref q_o_dates, .ref q_o_kept])), (q_o_charts, .inl (cZ, o_charts_n, .inl o_charts_f))] → va_S A s.heap H locs → W p l e rm_Mod_chartsNow s m args below meth c H locs 0 0 Q (F0 m 34 ls []) := by
    intro y1_4 y2_5 H locs ls he hl hP hD hS
    have h := hx_1
    rw [he] at h
    try dsimp only at h
    refine lv_iload_n hx hb d_Mod_chartsNow_34 rfl (lv_at hl 1 rfl) ?_
    cases h
    refine W.widen (k := 0) (n := 0) (Nat.le_of_ble_eq_true rfl) (Nat.le_of_ble_eq_true rfl) ?_
    exact RT 35 ls H locs _ d_Mod_chartsNow_35 (Or.inr (Or.inl ⟨rfl, _, rfl⟩)) rfl (hP.sub [0, 1] rfl) (hD.sub [0, 1] (by decide) rfl) hS
  have L_1 : ∀ (n : Nat) (x1_2 : Int32) (x2_3 : Int32) (H : Heap) (locs : List Loc) (ls : Array Slot), pu_it (p_Mod_chartsNow_L1 o_charts_n o_charts_f) n (x1_2, x2_3) = some e_1 → lv_has ls 3 [(2, .int x2_3), (1, .int x1_2), (0, .ref q_o)] → va_P (dC, dI) vwCl [(q_o, .inr (7, [.int o_thrown, .int o_width, .int o_height, .ref q_o_former, .ref q_o_later, .ref q_o_charts, .ref q_o_lows, .ref q_o_highs, .int o_repeats, .int o_wide, .int o_floor, .int o_across, .int o_down, .long o_sum, .long o_many, .long o_above, .long o_below, .ref q_o_firsts, .ref q_o_changes, .int o_marked, .int o_spots, .int o_days, .ref q_o_dates, .ref q_o_kept])), (q_o_charts, .inl (cZ, o_charts_n, .inl o_charts_f))] H → va_D A [(q_o, .inr (7, [.int o_thrown, .int o_width, .int o_height, .ref q_o_former, .ref q_o_later, .ref q_o_charts, .ref q_o_lows, .ref q_o_highs, .int o_repeats, .int o_wide, .int o_floor, .int o_across, .int o_down, .long o_sum, .long o_many, .long o_above, .long o_below, .ref q_o_firsts, .ref q_o_changes, .int o_marked, .int o_spots, .int o_days, .ref q_o_dates, .ref q_o_kept])), (q_o_charts, .inl (cZ, o_charts_n, .inl o_charts_f))] → va_S A s.heap H locs → W p l e rm_Mod_chartsNow s m args below meth c H locs 0 0 Q (F0 m 4 ls []) := by
    intro n
    induction n with
    | zero => intro x1_2 x2_3 H locs ls hn; exact (pu_it_0 hn).elim
    | succ n ih =>
      intro x1_2 x2_3 H locs ls hn hl hP hD hS
      obtain ⟨r_1, h, hr_1⟩ := pu_it_succ hn
      unfold p_Mod_chartsNow_L1 at h
      try dsimp only at h
      refine lv_iload_n hx hb d_Mod_chartsNow_4 rfl (lv_at hl 0 rfl) ?_
      refine lv_sipush (v := 576) hx hb d_Mod_chartsNow_5 (by decide) ?_
      refine lv_icmp_ge (tgt := 34) hx hb d_Mod_chartsNow_8 (by decide) (fun hc => ?_) (fun hc => ?_)
      · have h := pu_t hc h
        cases h
        exact K_1 x1_2 x2_3 H locs ls hr_1.symm (lv_sub hl [0, 1, 2] rfl) (hP.sub [0, 1] rfl) (hD.sub [0, 1] (by decide) rfl) hS
      · have h := pu_f hc h
        refine lv_aload_n hx hb d_Mod_chartsNow_11 rfl (lv_at hl 2 rfl) ?_
        refine va_get (D := (dC, dI)) (ci := 7) (v := .ref q_o_charts) (C := R_Mod) (T := F_Mod) (N := 24) hx hb hts i_Mod hown hK hP 0 rfl rfl 5 (by decide) (hts _ k_613) (fun _ h9 => h9) rfl d_Mod_chartsNow_12 ?_
        refine lv_iload_n hx hb d_Mod_chartsNow_15 rfl (lv_at hl 0 rfl) ?_
        obtain ⟨hg, h⟩ := pu_g h
        refine va_zald hx hb hK hP 1 2 rfl rfl hg d_Mod_chartsNow_16 ?_
        refine lv_if_eq (tgt := 26) hx hb d_Mod_chartsNow_17 (by decide) (fun hc => ?_) (fun hc => ?_)
        · have h := pu_t hc h
          refine lv_iload_n hx hb d_Mod_chartsNow_26 rfl (lv_at hl 1 rfl) ?_
          refine lv_istore_n (lv' := [(1, .int x1_2), (2, .int x2_3), (0, .ref q_o)]) hx hb d_Mod_chartsNow_27 rfl hl (by decide) rfl (fun ls hl => ?_)
          refine lv_iinc (v := (x2_3 + 1)) (lv' := [(2, .int (x2_3 + 1)), (1, .int x1_2), (0, .ref q_o)]) hx hb d_Mod_chartsNow_28 hl (k := 1) rfl rfl (by decide) rfl (fun ls hl => ?_)
          refine lv_goto (tgt := 4) hx hb d_Mod_chartsNow_31 (by decide) ?_
          cases h
          exact ih x1_2 (x2_3 + 1) H locs ls hr_1 (lv_sub hl [0, 1, 2] rfl) (hP.sub [0, 1] rfl) (hD.sub [0, 1] (by decide) rfl) hS
        · have h := pu_f hc h
          refine lv_iload_n hx hb d_Mod_chartsNow_20 rfl (lv_at hl 1 rfl) ?_
          refine lv_iconst (v := 1) hx hb d_Mod_chartsNow_21 (by decide) ?_
          refine lv_iadd hx hb d_Mod_chartsNow_22 ?_
          refine lv_goto (tgt := 27) hx hb d_Mod_chartsNow_23 (by decide) ?_
          refine lv_istore_n (lv' := [(1, .int (x1_2 + 1)), (2, .int x2_3), (0, .ref q_o)]) hx hb d_Mod_chartsNow_27 rfl hl (by decide) rfl (fun ls hl => ?_)
          refine lv_iinc (v := (x2_3 + 1)) (lv' := [(2, .int (x2_3 + 1)), (1, .int (x1_2 + 1)), (0, .ref q_o)]) hx hb d_Mod_chartsNow_28 hl (k := 1) rfl rfl (by decide) rfl (fun ls hl => ?_)
          refine lv_goto (tgt := 4) hx hb d_Mod_chartsNow_31 (by decide) ?_
          cases h
          exact ih (x1_2 + 1) (x2_3 + 1) H locs ls hr_1 (lv_sub hl [0, 1, 2] rfl) (hP.sub [0, 1] rfl) (hD.sub [0, 1] (by decide) rfl) hS
  exact L_1 n_1 0 0 H locs ls hn_1 hl hP hD hS

noncomputable def p_Mod_chart (a1 : Int32) (a2 : Int32) (a3 : Int32) (o_thrown : Int32) (o_width : Int32) (o_height : Int32) (o_repeats : Int32) (o_wide : Int32) (o_floor : Int32) (o_across : Int32) (o_down : Int32) (o_sum : Int64) (o_many : Int64) (o_above : Int64) (o_below : Int64) (o_marked : Int32) (o_spots : Int32) (o_days : Int32) (o_charts_n : Nat) (o_charts_f : Nat → Int32) : Option (Int32 × Int32 × (Nat → Int32)) :=
  (p_Mod_isCell a1 a2 o_thrown o_width o_height o_repeats o_wide o_floor o_across o_down o_sum o_many o_above o_below o_marked o_spots o_days).bind (fun (v1 : Int32) => ((if v1 = 0 then some 0 else pu_gd (vp_in ((24 * a2) + a1) o_charts_n) ((if (o_charts_f ((24 * a2) + a1).toNatClampNeg) = 0 then some 0 else some 1)))).bind (fun (j2_3 : Int32) => ((if a3 = 0 then some 1 else (if j2_3 = 0 then (p_Mod_chartsNow o_thrown o_width o_height o_repeats o_wide o_floor o_across o_down o_sum o_many o_above o_below o_marked o_spots o_days o_charts_n o_charts_f).bind (fun (v5 : Int32) => (if 12 ≤ v5 then some 0 else some 1)) else some 1))).bind (fun (j4_6 : Int32) => (p_Mod_goes v1 j4_6 1 o_thrown o_width o_height o_repeats o_wide o_floor o_across o_down o_sum o_many o_above o_below o_marked o_spots o_days).bind (fun ((v7, u7_0) : Int32 × Int32) => (if v7 = 0 then some (0, u7_0, o_charts_f) else pu_gd (vp_in ((24 * a2) + a1) o_charts_n) ((if j2_3 = a3 then some (0, u7_0, (upd o_charts_f ((24 * a2) + a1).toNatClampNeg (vp_nar .boolean a3))) else some (1, u7_0, (upd o_charts_f ((24 * a2) + a1).toNatClampNeg (vp_nar .boolean a3))))))))))
set_option maxHeartbeats 4000000 in
set_option maxRecDepth 100000 in
theorem c_Mod_chart (l : Launch) (dC : Nat → ClassId) (dI : Nat → Nat → Nat) (cI cJ cZ : ClassId) (q_o q_o_former q_o_later q_o_charts q_o_lows q_o_highs q_o_firsts q_o_changes q_o_dates q_o_kept : Nat) (a1 : Int32) (a2 : Int32) (a3 : Int32) (o_thrown : Int32) (o_width : Int32) (o_height : Int32) (o_repeats : Int32) (o_wide : Int32) (o_floor : Int32) (o_across : Int32) (o_down : Int32) (o_sum : Int64) (o_many : Int64) (o_above : Int64) (o_below : Int64) (o_marked : Int32) (o_spots : Int32) (o_days : Int32) (o_charts_n : Nat) (o_charts_f : Nat → Int32) (r0 : Int32) (r1 : Int32) (r2 : Nat → Int32) (h : p_Mod_chart a1 a2 a3 o_thrown o_width o_height o_repeats o_wide o_floor o_across o_down o_sum o_many o_above o_below o_marked o_spots o_days o_charts_n o_charts_f = some (r0, r1, r2)) : ct l y_Mod_chart w_Mod_chart rm_Mod_chart (dC, dI) [(cI, .int), (cJ, .long), (cZ, .boolean)] [.ref q_o, .int a1, .int a2, .int a3] [(q_o, .inr (7, [.int o_thrown, .int o_width, .int o_height, .ref q_o_former, .ref q_o_later, .ref q_o_charts, .ref q_o_lows, .ref q_o_highs, .int o_repeats, .int o_wide, .int o_floor, .int o_across, .int o_down, .long o_sum, .long o_many, .long o_above, .long o_below, .ref q_o_firsts, .ref q_o_changes, .int o_marked, .int o_spots, .int o_days, .ref q_o_dates, .ref q_o_kept])), (q_o_charts, .inl (cZ, o_charts_n, .inl o_charts_f))] (fun w => w = [(q_o, .inr (7, [.int r1, .int o_width, .int o_height, .ref q_o_former, .ref q_o_later, .ref q_o_charts, .ref q_o_lows, .ref q_o_highs, .int o_repeats, .int o_wide, .int o_floor, .int o_across, .int o_down, .long o_sum, .long o_many, .long o_above, .long o_below, .ref q_o_firsts, .ref q_o_changes, .int o_marked, .int o_spots, .int o_days, .ref q_o_dates, .ref q_o_kept])), (q_o_charts, .inl (cZ, o_charts_n, .inl r2))]) (some (.int r0)) := by
  refine ct_of (cc := b_Mod_chart) (maxL := 6) (ret := (some .boolean)) (lv := [(0, .ref q_o), (1, .int a1), (2, .int a2), (3, .int a3)]) (by decide) rfl rfl rfl ?_
  intro p e s m args below meth c A Q H locs hx hb hml hown hts hin hA hK hN hP hD hS RT ls hl
  unfold p_Mod_chart at h
  refine lv_aload_n hx hb d_Mod_chart_0 rfl (lv_at hl 0 rfl) ?_
  refine lv_iload_n hx hb d_Mod_chart_1 rfl (lv_at hl 1 rfl) ?_
  refine lv_iload_n hx hb d_Mod_chart_2 rfl (lv_at hl 2 rfl) ?_
  obtain ⟨v1, hu1, h⟩ := pu_bd h
  refine cc_V (As := [.int a1, .int a2]) (rest := []) ⟨hx, hb, hml, hown, hts⟩ (c_Mod_isCell l dC dI cI cJ cZ q_o q_o_former q_o_later q_o_charts q_o_lows q_o_highs q_o_firsts q_o_changes q_o_dates q_o_kept a1 a2 o_thrown o_width o_height o_repeats o_wide o_floor o_across o_down o_sum o_many o_above o_below o_marked o_spots o_days v1 hu1) (cwV 2 hts (gV k_690 k_692 kp_15 k_9 k_693 rfl) rfl rfl rfl hdV_Mod_isCell ⟨Nat.le_of_ble_eq_true rfl, Nat.le_of_ble_eq_true rfl⟩) hK hN hP hD hS hA [0] [1] (w0 := [(q_o, .inr (7, [.int o_thrown, .int o_width, .int o_height, .ref q_o_former, .ref q_o_later, .ref q_o_charts, .ref q_o_lows, .ref q_o_highs, .int o_repeats, .int o_wide, .int o_floor, .int o_across, .int o_down, .long o_sum, .long o_many, .long o_above, .long o_below, .ref q_o_firsts, .ref q_o_changes, .int o_marked, .int o_spots, .int o_days, .ref q_o_dates, .ref q_o_kept]))]) (wr := [(q_o_charts, .inl (cZ, o_charts_n, .inl o_charts_f))]) rfl rfl (by decide) (by decide) (by decide) 7 rfl rfl rfl hl.1 rfl (Nat.le_of_ble_eq_true rfl) d_Mod_chart_3 ⟨Nat.le_of_ble_eq_true rfl, Nat.le_of_ble_eq_true rfl⟩ (fun w1 H locs hw1 hP hD hS => ?_)
  subst hw1
  have hP : va_P (dC, dI) vwCl [(q_o_charts, .inl (cZ, o_charts_n, .inl o_charts_f)), (q_o, .inr (7, [.int o_thrown, .int o_width, .int o_height, .ref q_o_former, .ref q_o_later, .ref q_o_charts, .ref q_o_lows, .ref q_o_highs, .int o_repeats, .int o_wide, .int o_floor, .int o_across, .int o_down, .long o_sum, .long o_many, .long o_above, .long o_below, .ref q_o_firsts, .ref q_o_changes, .int o_marked, .int o_spots, .int o_days, .ref q_o_dates, .ref q_o_kept]))] H := hP
  have hD : va_D A [(q_o_charts, .inl (cZ, o_charts_n, .inl o_charts_f)), (q_o, .inr (7, [.int o_thrown, .int o_width, .int o_height, .ref q_o_former, .ref q_o_later, .ref q_o_charts, .ref q_o_lows, .ref q_o_highs, .int o_repeats, .int o_wide, .int o_floor, .int o_across, .int o_down, .long o_sum, .long o_many, .long o_above, .long o_below, .ref q_o_firsts, .ref q_o_changes, .int o_marked, .int o_spots, .int o_days, .ref q_o_dates, .ref q_o_kept]))] := hD
  refine lv_istore (lv' := [(4, .int v1), (0, .ref q_o), (1, .int a1), (2, .int a2), (3, .int a3)]) hx hb d_Mod_chart_6 hl (by decide) rfl (fun ls hl => ?_)
  refine lv_iload hx hb d_Mod_chart_8 (lv_at hl 0 rfl) ?_
  obtain ⟨j_2, hj_2, hx_2⟩ := pu_bd h
  have J_2 : ∀ (j2_3 : Int32) (H : Heap) (locs : List Loc) (ls : Array Slot), j_2 = j2_3 → lv_has ls 6 [(4, .int v1), (0, .ref q_o), (1, .int a1), (2, .int a2), (3, .int a3)] → va_P (dC, dI) vwCl [(q_o_charts, .inl (cZ, o_charts_n, .inl o_charts_f)), (q_o, .inr (7, [.int o_thrown, .int o_width, .int o_height, .ref q_o_former, .ref q_o_later, .ref q_o_charts, .ref q_o_lows, .ref q_o_highs, .int o_repeats, .int o_wide, .int o_floor, .int o_across, .int o_down, .long o_sum, .long o_many, .long o_above, .long o_below, .ref q_o_firsts, .ref q_o_changes, .int o_marked, .int o_spots, .int o_days, .ref q_o_dates, .ref q_o_kept]))] H → va_D A [(q_o_charts, .inl (cZ, o_charts_n, .inl o_charts_f)), (q_o, .inr (7, [.int o_thrown, .int o_width, .int o_height, .ref q_o_former, .ref q_o_later, .ref q_o_charts, .ref q_o_lows, .ref q_o_highs, .int o_repeats, .int o_wide, .int o_floor, .int o_across, .int o_down, .long o_sum, .long o_many, .long o_above, .long o_below, .ref q_o_firsts, .ref q_o_changes, .int o_marked, .int o_spots, .int o_days, .ref q_o_dates, .ref q_o_kept]))] → va_S A s.heap H locs → W p l e rm_Mod_chart s m args below meth c H locs 0 0 Q (F0 m 32 ls [.int j2_3]) := by
    intro j2_3 H locs ls he hl hP hD hS
    have h := hx_2
    rw [he] at h
    try dsimp only at h
    refine lv_istore (lv' := [(5, .int j2_3), (4, .int v1), (0, .ref q_o), (1, .int a1), (2, .int a2), (3, .int a3)]) hx hb d_Mod_chart_32 hl (by decide) rfl (fun ls hl => ?_)
    refine lv_aload_n hx hb d_Mod_chart_34 rfl (lv_at hl 2 rfl) ?_
    refine lv_iload hx hb d_Mod_chart_35 (lv_at hl 1 rfl) ?_
    refine lv_iload_n hx hb d_Mod_chart_37 rfl (lv_at hl 5 rfl) ?_
    obtain ⟨j_4, hj_4, hx_4⟩ := pu_bd h
    have J_4 : ∀ (j4_6 : Int32) (H : Heap) (locs : List Loc) (ls : Array Slot), j_4 = j4_6 → lv_has ls 6 [(5, .int j2_3), (4, .int v1), (0, .ref q_o), (1, .int a1), (2, .int a2), (3, .int a3)] → va_P (dC, dI) vwCl [(q_o_charts, .inl (cZ, o_charts_n, .inl o_charts_f)), (q_o, .inr (7, [.int o_thrown, .int o_width, .int o_height, .ref q_o_former, .ref q_o_later, .ref q_o_charts, .ref q_o_lows, .ref q_o_highs, .int o_repeats, .int o_wide, .int o_floor, .int o_across, .int o_down, .long o_sum, .long o_many, .long o_above, .long o_below, .ref q_o_firsts, .ref q_o_changes, .int o_marked, .int o_spots, .int o_days, .ref q_o_dates, .ref q_o_kept]))] H → va_D A [(q_o_charts, .inl (cZ, o_charts_n, .inl o_charts_f)), (q_o, .inr (7, [.int o_thrown, .int o_width, .int o_height, .ref q_o_former, .ref q_o_later, .ref q_o_charts, .ref q_o_lows, .ref q_o_highs, .int o_repeats, .int o_wide, .int o_floor, .int o_across, .int o_down, .long o_sum, .long o_many, .long o_above, .long o_below, .ref q_o_firsts, .ref q_o_changes, .int o_marked, .int o_spots, .int o_days, .ref q_o_dates, .ref q_o_kept]))] → va_S A s.heap H locs → W p l e rm_Mod_chart s m args below meth c H locs 0 0 Q (F0 m 60 ls [.int j4_6, .int v1, .ref q_o]) := by
      intro j4_6 H locs ls he hl hP hD hS
      have h := hx_4
      rw [he] at h
      try dsimp only at h
      refine lv_iconst (v := 1) hx hb d_Mod_chart_60 (by decide) ?_
      obtain ⟨⟨v7, u7_0⟩, hu7, h⟩ := pu_bd h
      try dsimp only at h
      refine cc_V (As := [.int v1, .int j4_6, .int 1]) (rest := []) ⟨hx, hb, hml, hown, hts⟩ (c_Mod_goes l dC dI cI cJ cZ q_o q_o_former q_o_later q_o_charts q_o_lows q_o_highs q_o_firsts q_o_changes q_o_dates q_o_kept v1 j4_6 1 o_thrown o_width o_height o_repeats o_wide o_floor o_across o_down o_sum o_many o_above o_below o_marked o_spots o_days v7 u7_0 hu7) (cwV 3 hts (gV k_697 k_699 kp_16 k_9 k_700 rfl) rfl rfl rfl hdV_Mod_goes ⟨Nat.le_of_ble_eq_true rfl, Nat.le_of_ble_eq_true rfl⟩) hK hN hP hD hS hA [1] [0] (w0 := [(q_o, .inr (7, [.int o_thrown, .int o_width, .int o_height, .ref q_o_former, .ref q_o_later, .ref q_o_charts, .ref q_o_lows, .ref q_o_highs, .int o_repeats, .int o_wide, .int o_floor, .int o_across, .int o_down, .long o_sum, .long o_many, .long o_above, .long o_below, .ref q_o_firsts, .ref q_o_changes, .int o_marked, .int o_spots, .int o_days, .ref q_o_dates, .ref q_o_kept]))]) (wr := [(q_o_charts, .inl (cZ, o_charts_n, .inl o_charts_f))]) rfl rfl (by decide) (by decide) (by decide) 7 rfl rfl rfl hl.1 rfl (Nat.le_of_ble_eq_true rfl) d_Mod_chart_61 ⟨Nat.le_of_ble_eq_true rfl, Nat.le_of_ble_eq_true rfl⟩ (fun w1 H locs hw1 hP hD hS => ?_)
      subst hw1
      have hP : va_P (dC, dI) vwCl [(q_o_charts, .inl (cZ, o_charts_n, .inl o_charts_f)), (q_o, .inr (7, [.int u7_0, .int o_width, .int o_height, .ref q_o_former, .ref q_o_later, .ref q_o_charts, .ref q_o_lows, .ref q_o_highs, .int o_repeats, .int o_wide, .int o_floor, .int o_across, .int o_down, .long o_sum, .long o_many, .long o_above, .long o_below, .ref q_o_firsts, .ref q_o_changes, .int o_marked, .int o_spots, .int o_days, .ref q_o_dates, .ref q_o_kept]))] H := hP
      have hD : va_D A [(q_o_charts, .inl (cZ, o_charts_n, .inl o_charts_f)), (q_o, .inr (7, [.int u7_0, .int o_width, .int o_height, .ref q_o_former, .ref q_o_later, .ref q_o_charts, .ref q_o_lows, .ref q_o_highs, .int o_repeats, .int o_wide, .int o_floor, .int o_across, .int o_down, .long o_sum, .long o_many, .long o_above, .long o_below, .ref q_o_firsts, .ref q_o_changes, .int o_marked, .int o_spots, .int o_days, .ref q_o_dates, .ref q_o_kept]))] := hD
      refine lv_if_ne (tgt := 69) hx hb d_Mod_chart_64 (by decide) (fun hc => ?_) (fun hc => ?_)
      · have h := pu_f hc h
        refine lv_aload_n hx hb d_Mod_chart_69 rfl (lv_at hl 2 rfl) ?_
        refine va_get (D := (dC, dI)) (ci := 7) (v := .ref q_o_charts) (C := R_Mod) (T := F_Mod) (N := 24) hx hb hts i_Mod hown hK hP 1 rfl rfl 5 (by decide) (hts _ k_613) (fun _ h9 => h9) rfl d_Mod_chart_70 ?_
        refine lv_bipush (v := 24) hx hb d_Mod_chart_73 (by decide) ?_
        refine lv_iload_n hx hb d_Mod_chart_75 rfl (lv_at hl 4 rfl) ?_
        refine lv_imul hx hb d_Mod_chart_76 ?_
        refine lv_iload_n hx hb d_Mod_chart_77 rfl (lv_at hl 3 rfl) ?_
        refine lv_iadd hx hb d_Mod_chart_78 ?_
        refine lv_iload_n hx hb d_Mod_chart_79 rfl (lv_at hl 5 rfl) ?_
        obtain ⟨hg, h⟩ := pu_g h
        refine va_zast hx hb hK hP hD hS 0 2 rfl rfl hg d_Mod_chart_80 (fun H locs hP hD hS => ?_)
        have hP : va_P (dC, dI) vwCl [(q_o_charts, .inl (cZ, o_charts_n, .inl (upd o_charts_f ((24 * a2) + a1).toNatClampNeg (vp_nar .boolean a3)))), (q_o, .inr (7, [.int u7_0, .int o_width, .int o_height, .ref q_o_former, .ref q_o_later, .ref q_o_charts, .ref q_o_lows, .ref q_o_highs, .int o_repeats, .int o_wide, .int o_floor, .int o_across, .int o_down, .long o_sum, .long o_many, .long o_above, .long o_below, .ref q_o_firsts, .ref q_o_changes, .int o_marked, .int o_spots, .int o_days, .ref q_o_dates, .ref q_o_kept]))] H := hP
        have hD : va_D A [(q_o_charts, .inl (cZ, o_charts_n, .inl (upd o_charts_f ((24 * a2) + a1).toNatClampNeg (vp_nar .boolean a3)))), (q_o, .inr (7, [.int u7_0, .int o_width, .int o_height, .ref q_o_former, .ref q_o_later, .ref q_o_charts, .ref q_o_lows, .ref q_o_highs, .int o_repeats, .int o_wide, .int o_floor, .int o_across, .int o_down, .long o_sum, .long o_many, .long o_above, .long o_below, .ref q_o_firsts, .ref q_o_changes, .int o_marked, .int o_spots, .int o_days, .ref q_o_dates, .ref q_o_kept]))] := hD
        refine lv_iload hx hb d_Mod_chart_81 (lv_at hl 0 rfl) ?_
        refine lv_iload_n hx hb d_Mod_chart_83 rfl (lv_at hl 5 rfl) ?_
        refine lv_icmp_eq (tgt := 91) hx hb d_Mod_chart_84 (by decide) (fun hc => ?_) (fun hc => ?_)
        · have h := pu_t hc h
          refine lv_iconst (v := 0) hx hb d_Mod_chart_91 (by decide) ?_
          cases h
          refine W.widen (k := 0) (n := 0) (Nat.le_of_ble_eq_true rfl) (Nat.le_of_ble_eq_true rfl) ?_
          exact RT 92 ls H locs _ d_Mod_chart_92 (Or.inr (Or.inr (Or.inr ⟨rfl, _, rfl, rfl⟩))) rfl (hP.sub [1, 0] rfl) (hD.sub [1, 0] (by decide) rfl) hS
        · have h := pu_f hc h
          refine lv_iconst (v := 1) hx hb d_Mod_chart_87 (by decide) ?_
          refine lv_goto (tgt := 92) hx hb d_Mod_chart_88 (by decide) ?_
          cases h
          refine W.widen (k := 0) (n := 0) (Nat.le_of_ble_eq_true rfl) (Nat.le_of_ble_eq_true rfl) ?_
          exact RT 92 ls H locs _ d_Mod_chart_92 (Or.inr (Or.inr (Or.inr ⟨rfl, _, rfl, rfl⟩))) rfl (hP.sub [1, 0] rfl) (hD.sub [1, 0] (by decide) rfl) hS
      · have h := pu_t hc h
        refine lv_iconst (v := 0) hx hb d_Mod_chart_67 (by decide) ?_
        cases h
        refine W.widen (k := 0) (n := 0) (Nat.le_of_ble_eq_true rfl) (Nat.le_of_ble_eq_true rfl) ?_
        exact RT 68 ls H locs _ d_Mod_chart_68 (Or.inr (Or.inr (Or.inr ⟨rfl, _, rfl, rfl⟩))) rfl (hP.sub [1, 0] rfl) (hD.sub [1, 0] (by decide) rfl) hS
    have h := hj_4
    refine lv_if_eq (tgt := 55) hx hb d_Mod_chart_38 (by decide) (fun hc => ?_) (fun hc => ?_)
    · have h := pu_t hc h
      refine lv_iconst (v := 1) hx hb d_Mod_chart_55 (by decide) ?_
      refine lv_goto (tgt := 60) hx hb d_Mod_chart_56 (by decide) ?_
      exact J_4 1 H locs ls (Option.some.inj h).symm (lv_sub hl [0, 1, 2, 3, 4, 5] rfl) (hP.sub [0, 1] rfl) (hD.sub [0, 1] (by decide) rfl) hS
    · have h := pu_f hc h
      refine lv_iload hx hb d_Mod_chart_41 (lv_at hl 0 rfl) ?_
      refine lv_if_ne (tgt := 55) hx hb d_Mod_chart_43 (by decide) (fun hc => ?_) (fun hc => ?_)
      · have h := pu_f hc h
        refine lv_iconst (v := 1) hx hb d_Mod_chart_55 (by decide) ?_
        refine lv_goto (tgt := 60) hx hb d_Mod_chart_56 (by decide) ?_
        exact J_4 1 H locs ls (Option.some.inj h).symm (lv_sub hl [0, 1, 2, 3, 4, 5] rfl) (hP.sub [0, 1] rfl) (hD.sub [0, 1] (by decide) rfl) hS
      · have h := pu_t hc h
        refine lv_aload_n hx hb d_Mod_chart_46 rfl (lv_at hl 2 rfl) ?_
        obtain ⟨v5, hu5, h⟩ := pu_bd h
        refine cc_V (As := []) (rest := [.int v1, .ref q_o]) ⟨hx, hb, hml, hown, hts⟩ (c_Mod_chartsNow l dC dI cI cJ cZ q_o q_o_former q_o_later q_o_charts q_o_lows q_o_highs q_o_firsts q_o_changes q_o_dates q_o_kept o_thrown o_width o_height o_repeats o_wide o_floor o_across o_down o_sum o_many o_above o_below o_marked o_spots o_days o_charts_n o_charts_f v5 hu5) (cwV 0 hts (gV k_729 k_731 kp_20 k_9 k_732 rfl) rfl rfl rfl hdV_Mod_chartsNow ⟨Nat.le_of_ble_eq_true rfl, Nat.le_of_ble_eq_true rfl⟩) hK hN hP hD hS hA [1, 0] [] (w0 := [(q_o, .inr (7, [.int o_thrown, .int o_width, .int o_height, .ref q_o_former, .ref q_o_later, .ref q_o_charts, .ref q_o_lows, .ref q_o_highs, .int o_repeats, .int o_wide, .int o_floor, .int o_across, .int o_down, .long o_sum, .long o_many, .long o_above, .long o_below, .ref q_o_firsts, .ref q_o_changes, .int o_marked, .int o_spots, .int o_days, .ref q_o_dates, .ref q_o_kept])), (q_o_charts, .inl (cZ, o_charts_n, .inl o_charts_f))]) (wr := []) rfl rfl (by decide) (by decide) (by decide) 7 rfl rfl rfl hl.1 rfl (Nat.le_of_ble_eq_true rfl) d_Mod_chart_47 ⟨Nat.le_of_ble_eq_true rfl, Nat.le_of_ble_eq_true rfl⟩ (fun w1 H locs hw1 hP hD hS => ?_)
        subst hw1
        have hP : va_P (dC, dI) vwCl [(q_o, .inr (7, [.int o_thrown, .int o_width, .int o_height, .ref q_o_former, .ref q_o_later, .ref q_o_charts, .ref q_o_lows, .ref q_o_highs, .int o_repeats, .int o_wide, .int o_floor, .int o_across, .int o_down, .long o_sum, .long o_many, .long o_above, .long o_below, .ref q_o_firsts, .ref q_o_changes, .int o_marked, .int o_spots, .int o_days, .ref q_o_dates, .ref q_o_kept])), (q_o_charts, .inl (cZ, o_charts_n, .inl o_charts_f))] H := hP
        have hD : va_D A [(q_o, .inr (7, [.int o_thrown, .int o_width, .int o_height, .ref q_o_former, .ref q_o_later, .ref q_o_charts, .ref q_o_lows, .ref q_o_highs, .int o_repeats, .int o_wide, .int o_floor, .int o_across, .int o_down, .long o_sum, .long o_many, .long o_above, .long o_below, .ref q_o_firsts, .ref q_o_changes, .int o_marked, .int o_spots, .int o_days, .ref q_o_dates, .ref q_o_kept])), (q_o_charts, .inl (cZ, o_charts_n, .inl o_charts_f))] := hD
        refine lv_bipush (v := 12) hx hb d_Mod_chart_50 (by decide) ?_
        refine lv_icmp_ge (tgt := 59) hx hb d_Mod_chart_52 (by decide) (fun hc => ?_) (fun hc => ?_)
        · have h := pu_t hc h
          refine lv_iconst (v := 0) hx hb d_Mod_chart_59 (by decide) ?_
          exact J_4 0 H locs ls (Option.some.inj h).symm (lv_sub hl [0, 1, 2, 3, 4, 5] rfl) (hP.sub [1, 0] rfl) (hD.sub [1, 0] (by decide) rfl) hS
        · have h := pu_f hc h
          refine lv_iconst (v := 1) hx hb d_Mod_chart_55 (by decide) ?_
          refine lv_goto (tgt := 60) hx hb d_Mod_chart_56 (by decide) ?_
          exact J_4 1 H locs ls (Option.some.inj h).symm (lv_sub hl [0, 1, 2, 3, 4, 5] rfl) (hP.sub [1, 0] rfl) (hD.sub [1, 0] (by decide) rfl) hS
  have h := hj_2
  refine lv_if_eq (tgt := 31) hx hb d_Mod_chart_10 (by decide) (fun hc => ?_) (fun hc => ?_)
  · have h := pu_t hc h
    refine lv_iconst (v := 0) hx hb d_Mod_chart_31 (by decide) ?_
    exact J_2 0 H locs ls (Option.some.inj h).symm (lv_sub hl [0, 1, 2, 3, 4] rfl) (hP.sub [0, 1] rfl) (hD.sub [0, 1] (by decide) rfl) hS
  · have h := pu_f hc h
    refine lv_aload_n hx hb d_Mod_chart_13 rfl (lv_at hl 1 rfl) ?_
    refine va_get (D := (dC, dI)) (ci := 7) (v := .ref q_o_charts) (C := R_Mod) (T := F_Mod) (N := 24) hx hb hts i_Mod hown hK hP 1 rfl rfl 5 (by decide) (hts _ k_613) (fun _ h9 => h9) rfl d_Mod_chart_14 ?_
    refine lv_bipush (v := 24) hx hb d_Mod_chart_17 (by decide) ?_
    refine lv_iload_n hx hb d_Mod_chart_19 rfl (lv_at hl 3 rfl) ?_
    refine lv_imul hx hb d_Mod_chart_20 ?_
    refine lv_iload_n hx hb d_Mod_chart_21 rfl (lv_at hl 2 rfl) ?_
    refine lv_iadd hx hb d_Mod_chart_22 ?_
    obtain ⟨hg, h⟩ := pu_g h
    refine va_zald hx hb hK hP 0 2 rfl rfl hg d_Mod_chart_23 ?_
    refine lv_if_eq (tgt := 31) hx hb d_Mod_chart_24 (by decide) (fun hc => ?_) (fun hc => ?_)
    · have h := pu_t hc h
      refine lv_iconst (v := 0) hx hb d_Mod_chart_31 (by decide) ?_
      exact J_2 0 H locs ls (Option.some.inj h).symm (lv_sub hl [0, 1, 2, 3, 4] rfl) (hP.sub [0, 1] rfl) (hD.sub [0, 1] (by decide) rfl) hS
    · have h := pu_f hc h
      refine lv_iconst (v := 1) hx hb d_Mod_chart_27 (by decide) ?_
      refine lv_goto (tgt := 32) hx hb d_Mod_chart_28 (by decide) ?_
      exact J_2 1 H locs ls (Option.some.inj h).symm (lv_sub hl [0, 1, 2, 3, 4] rfl) (hP.sub [0, 1] rfl) (hD.sub [0, 1] (by decide) rfl) hS

noncomputable def p_Mod_divisor_L3  : (Int64 × Int64) → Option ((Int64 × Int64) ⊕ (Int64 × Int64)) := fun ((x4_4, x6_5) : Int64 × Int64) =>
  (if (lg_cmp x6_5 0) = 0 then some (.inr (x4_4, x6_5)) else pu_gd (¬ (x6_5 : Int64) = 0) (some (.inl (x6_5, (x4_4 - x4_4 / x6_5 * x6_5)))))
noncomputable def p_Mod_divisor (a1 : Int64) (a2 : Int64) : Option (Int64) :=
  ((if 0 ≤ (lg_cmp a1 0) then some a1 else some (0 - a1))).bind (fun (j1_2 : Int64) => (pu_loop (p_Mod_divisor_L3) (j1_2, a2)).bind (fun ((y4_6, y6_7) : Int64 × Int64) => some y4_6))
set_option maxHeartbeats 4000000 in
set_option maxRecDepth 100000 in
theorem c_Mod_divisor (l : Launch) (dC : Nat → ClassId) (dI : Nat → Nat → Nat) (cI cJ cZ : ClassId) (a1 : Int64) (a2 : Int64) (r0 : Int64) (h : p_Mod_divisor a1 a2 = some r0) : ct l y_Mod_divisor w_Mod_divisor rm_Mod_divisor (dC, dI) [(cI, .int), (cJ, .long), (cZ, .boolean)] [.long a1, .long a2] [] (fun w => w = []) (some (.long r0)) := by
  refine ct_of (cc := b_Mod_divisor) (maxL := 10) (ret := (some .long)) (lv := [(0, .long a1), (2, .long a2)]) (by decide) rfl rfl rfl ?_
  intro p e s m args below meth c A Q H locs hx hb hml hown hts hin hA hK hN hP hD hS RT ls hl
  unfold p_Mod_divisor at h
  refine lv_lload_n hx hb d_Mod_divisor_0 rfl (lv_at hl 0 rfl) ?_
  refine lv_lconst (v := 0) hx hb d_Mod_divisor_1 (by decide) ?_
  refine W.lcmp hx hb d_Mod_divisor_2 ?_
  obtain ⟨j_1, hj_1, hx_1⟩ := pu_bd h
  have J_1 : ∀ (j1_2 : Int64) (H : Heap) (locs : List Loc) (ls : Array Slot), j_1 = j1_2 → lv_has ls 10 [(0, .long a1), (2, .long a2)] → va_P (dC, dI) vwCl [] H → va_D A [] → va_S A s.heap H locs → W p l e rm_Mod_divisor s m args below meth c H locs 0 0 Q (F0 m 13 ls [.long j1_2]) := by
    intro j1_2 H locs ls he hl hP hD hS
    have h := hx_1
    rw [he] at h
    try dsimp only at h
    refine lv_lstore (lv' := [(4, .long j1_2), (0, .long a1), (2, .long a2)]) hx hb d_Mod_divisor_13 hl (by decide) rfl (fun ls hl => ?_)
    refine lv_lload_n hx hb d_Mod_divisor_15 rfl (lv_at hl 2 rfl) ?_
    refine lv_lstore (lv' := [(6, .long a2), (4, .long j1_2), (0, .long a1), (2, .long a2)]) hx hb d_Mod_divisor_16 hl (by decide) rfl (fun ls hl => ?_)
    obtain ⟨e_3, he_3, hx_3⟩ := pu_bd h
    obtain ⟨n_3, hn_3⟩ := pu_loop_it he_3
    have K_3 : ∀ (y4_6 : Int64) (y6_7 : Int64) (H : Heap) (locs : List Loc) (ls : Array Slot), e_3 = (y4_6, y6_7) → lv_has ls 10 [(6, .long y6_7), (4, .long y4_6), (0, .long a1), (2, .long a2)] → va_P (dC, dI) vwCl [] H → va_D A [] → va_S A s.heap H locs → W p l e rm_Mod_divisor s m args below meth c H locs 0 0 Q (F0 m 43 ls []) := by
      intro y4_6 y6_7 H locs ls he hl hP hD hS
      have h := hx_3
      rw [he] at h
      try dsimp only at h
      refine lv_lload hx hb d_Mod_divisor_43 (lv_at hl 1 rfl) ?_
      cases h
      refine W.widen (k := 0) (n := 0) (Nat.le_of_ble_eq_true rfl) (Nat.le_of_ble_eq_true rfl) ?_
      exact RT 45 ls H locs _ d_Mod_divisor_45 (Or.inr (Or.inr (Or.inl ⟨rfl, _, rfl⟩))) rfl (hP.sub [] rfl) (hD.sub [] (by decide) rfl) hS
    have L_3 : ∀ (n : Nat) (x4_4 : Int64) (x6_5 : Int64) (H : Heap) (locs : List Loc) (ls : Array Slot), pu_it (p_Mod_divisor_L3) n (x4_4, x6_5) = some e_3 → lv_has ls 10 [(6, .long x6_5), (4, .long x4_4), (0, .long a1), (2, .long a2)] → va_P (dC, dI) vwCl [] H → va_D A [] → va_S A s.heap H locs → W p l e rm_Mod_divisor s m args below meth c H locs 0 0 Q (F0 m 18 ls []) := by
      intro n
      induction n with
      | zero => intro x4_4 x6_5 H locs ls hn; exact (pu_it_0 hn).elim
      | succ n ih =>
        intro x4_4 x6_5 H locs ls hn hl hP hD hS
        obtain ⟨r_3, h, hr_3⟩ := pu_it_succ hn
        unfold p_Mod_divisor_L3 at h
        try dsimp only at h
        refine lv_lload hx hb d_Mod_divisor_18 (lv_at hl 0 rfl) ?_
        refine lv_lconst (v := 0) hx hb d_Mod_divisor_20 (by decide) ?_
        refine W.lcmp hx hb d_Mod_divisor_21 ?_
        refine lv_if_eq (tgt := 43) hx hb d_Mod_divisor_22 (by decide) (fun hc => ?_) (fun hc => ?_)
        · have h := pu_t hc h
          cases h
          exact K_3 x4_4 x6_5 H locs ls hr_3.symm (lv_sub hl [0, 1, 2, 3] rfl) (hP.sub [] rfl) (hD.sub [] (by decide) rfl) hS
        · have h := pu_f hc h
          refine lv_lload hx hb d_Mod_divisor_25 (lv_at hl 1 rfl) ?_
          refine lv_lload hx hb d_Mod_divisor_27 (lv_at hl 0 rfl) ?_
          obtain ⟨hg, h⟩ := pu_g h
          refine lv_lrem hx hb d_Mod_divisor_29 hg ?_
          refine lv_lstore (lv' := [(8, .long (x4_4 - x4_4 / x6_5 * x6_5)), (6, .long x6_5), (4, .long x4_4), (0, .long a1), (2, .long a2)]) hx hb d_Mod_divisor_30 hl (by decide) rfl (fun ls hl => ?_)
          refine lv_lload hx hb d_Mod_divisor_32 (lv_at hl 1 rfl) ?_
          refine lv_lstore (lv' := [(4, .long x6_5), (8, .long (x4_4 - x4_4 / x6_5 * x6_5)), (6, .long x6_5), (0, .long a1), (2, .long a2)]) hx hb d_Mod_divisor_34 hl (by decide) rfl (fun ls hl => ?_)
          refine lv_lload hx hb d_Mod_divisor_36 (lv_at hl 1 rfl) ?_
          refine lv_lstore (lv' := [(6, .long (x4_4 - x4_4 / x6_5 * x6_5)), (4, .long x6_5), (8, .long (x4_4 - x4_4 / x6_5 * x6_5)), (0, .long a1), (2, .long a2)]) hx hb d_Mod_divisor_38 hl (by decide) rfl (fun ls hl => ?_)
          refine lv_goto (tgt := 18) hx hb d_Mod_divisor_40 (by decide) ?_
          cases h
          exact ih x6_5 (x4_4 - x4_4 / x6_5 * x6_5) H locs ls hr_3 (lv_sub hl [0, 1, 3, 4] rfl) (hP.sub [] rfl) (hD.sub [] (by decide) rfl) hS
    exact L_3 n_3 j1_2 a2 H locs ls hn_3 hl hP hD hS
  have h := hj_1
  refine lv_if_ge (tgt := 12) hx hb d_Mod_divisor_3 (by decide) (fun hc => ?_) (fun hc => ?_)
  · have h := pu_t hc h
    refine lv_lload_n hx hb d_Mod_divisor_12 rfl (lv_at hl 0 rfl) ?_
    exact J_1 a1 H locs ls (Option.some.inj h).symm (lv_sub hl [0, 1] rfl) (hP.sub [] rfl) (hD.sub [] (by decide) rfl) hS
  · have h := pu_f hc h
    refine lv_lconst (v := 0) hx hb d_Mod_divisor_6 (by decide) ?_
    refine lv_lload_n hx hb d_Mod_divisor_7 rfl (lv_at hl 0 rfl) ?_
    refine lv_lsub hx hb d_Mod_divisor_8 ?_
    refine lv_goto (tgt := 13) hx hb d_Mod_divisor_9 (by decide) ?_
    exact J_1 (0 - a1) H locs ls (Option.some.inj h).symm (lv_sub hl [0, 1] rfl) (hP.sub [] rfl) (hD.sub [] (by decide) rfl) hS

noncomputable def p_Mod_weigh_L1 (o_thrown : Int32) (o_width : Int32) (o_height : Int32) (o_repeats : Int32) (o_wide : Int32) (o_floor : Int32) (o_across : Int32) (o_down : Int32) (o_sum : Int64) (o_many : Int64) (o_marked : Int32) (o_spots : Int32) (o_days : Int32) (o_former_n : Nat) (o_former_f : Nat → Int32) (o_later_n : Nat) (o_later_f : Nat → Int32) (o_charts_n : Nat) (o_charts_f : Nat → Int32) : (Int32 × Int64 × Int64) → Option ((Int32 × Int64 × Int64) ⊕ (Int32 × Int64 × Int64)) := fun ((x1_2, o_above_3, o_below_4) : Int32 × Int64 × Int64) =>
  (if 576 ≤ x1_2 then some (.inr (x1_2, o_above_3, o_below_4)) else pu_gd (vp_in x1_2 o_charts_n) (((if (o_charts_f x1_2.toNatClampNeg) = 0 then some (-1) else (p_Mod_under x1_2 o_across o_down o_thrown o_width o_height o_repeats o_wide o_floor o_across o_down o_sum o_many o_above_3 o_below_4 o_marked o_spots o_days).bind (fun (v6 : Int32) => some v6))).bind (fun (j5_7 : Int32) => (if j5_7 = (-1) then some (.inl ((x1_2 + 1), o_above_3, o_below_4)) else pu_gd (vp_in x1_2 o_former_n) (pu_gd (vp_in j5_7 o_later_n) (pu_gd (vp_in j5_7 o_later_n) (pu_gd (vp_in j5_7 o_later_n) (some (.inl ((x1_2 + 1), (o_above_3 + (((o_former_f x1_2.toNatClampNeg) * (o_later_f j5_7.toNatClampNeg)).toInt64)), (o_below_4 + (((o_later_f j5_7.toNatClampNeg) * (o_later_f j5_7.toNatClampNeg)).toInt64))))))))))))
noncomputable def p_Mod_weigh (o_thrown : Int32) (o_width : Int32) (o_height : Int32) (o_repeats : Int32) (o_wide : Int32) (o_floor : Int32) (o_across : Int32) (o_down : Int32) (o_sum : Int64) (o_many : Int64) (o_above : Int64) (o_below : Int64) (o_marked : Int32) (o_spots : Int32) (o_days : Int32) (o_former_n : Nat) (o_former_f : Nat → Int32) (o_later_n : Nat) (o_later_f : Nat → Int32) (o_charts_n : Nat) (o_charts_f : Nat → Int32) : Option (Int64 × Int64) :=
  (pu_loop (p_Mod_weigh_L1 o_thrown o_width o_height o_repeats o_wide o_floor o_across o_down o_sum o_many o_marked o_spots o_days o_former_n o_former_f o_later_n o_later_f o_charts_n o_charts_f) (0, 0, 0)).bind (fun ((y1_8, z9, z10) : Int32 × Int64 × Int64) => ((if (lg_cmp z9 0) = 0 then some (1, 1) else (if (lg_cmp z10 0) = 0 then some (1, 1) else some (z9, z10)))).bind (fun ((j11_12, j11_13) : Int64 × Int64) => (p_Mod_divisor j11_12 j11_13).bind (fun (v14 : Int64) => pu_gd (¬ (v14 : Int64) = 0) (pu_gd (¬ (v14 : Int64) = 0) (some ((j11_12 / v14), (j11_13 / v14)))))))
set_option maxHeartbeats 4000000 in
set_option maxRecDepth 100000 in
theorem c_Mod_weigh (l : Launch) (dC : Nat → ClassId) (dI : Nat → Nat → Nat) (cI cJ cZ : ClassId) (q_o q_o_former q_o_later q_o_charts q_o_lows q_o_highs q_o_firsts q_o_changes q_o_dates q_o_kept : Nat) (o_thrown : Int32) (o_width : Int32) (o_height : Int32) (o_repeats : Int32) (o_wide : Int32) (o_floor : Int32) (o_across : Int32) (o_down : Int32) (o_sum : Int64) (o_many : Int64) (o_above : Int64) (o_below : Int64) (o_marked : Int32) (o_spots : Int32) (o_days : Int32) (o_former_n : Nat) (o_former_f : Nat → Int32) (o_later_n : Nat) (o_later_f : Nat → Int32) (o_charts_n : Nat) (o_charts_f : Nat → Int32) (r0 : Int64) (r1 : Int64) (h : p_Mod_weigh o_thrown o_width o_height o_repeats o_wide o_floor o_across o_down o_sum o_many o_above o_below o_marked o_spots o_days o_former_n o_former_f o_later_n o_later_f o_charts_n o_charts_f = some (r0, r1)) : ct l y_Mod_weigh w_Mod_weigh rm_Mod_weigh (dC, dI) [(cI, .int), (cJ, .long), (cZ, .boolean)] [.ref q_o] [(q_o, .inr (7, [.int o_thrown, .int o_width, .int o_height, .ref q_o_former, .ref q_o_later, .ref q_o_charts, .ref q_o_lows, .ref q_o_highs, .int o_repeats, .int o_wide, .int o_floor, .int o_across, .int o_down, .long o_sum, .long o_many, .long o_above, .long o_below, .ref q_o_firsts, .ref q_o_changes, .int o_marked, .int o_spots, .int o_days, .ref q_o_dates, .ref q_o_kept])), (q_o_former, .inl (cI, o_former_n, .inl o_former_f)), (q_o_later, .inl (cI, o_later_n, .inl o_later_f)), (q_o_charts, .inl (cZ, o_charts_n, .inl o_charts_f))] (fun w => w = [(q_o, .inr (7, [.int o_thrown, .int o_width, .int o_height, .ref q_o_former, .ref q_o_later, .ref q_o_charts, .ref q_o_lows, .ref q_o_highs, .int o_repeats, .int o_wide, .int o_floor, .int o_across, .int o_down, .long o_sum, .long o_many, .long r0, .long r1, .ref q_o_firsts, .ref q_o_changes, .int o_marked, .int o_spots, .int o_days, .ref q_o_dates, .ref q_o_kept])), (q_o_former, .inl (cI, o_former_n, .inl o_former_f)), (q_o_later, .inl (cI, o_later_n, .inl o_later_f)), (q_o_charts, .inl (cZ, o_charts_n, .inl o_charts_f))]) none := by
  refine ct_of (cc := b_Mod_weigh) (maxL := 3) (ret := none) (lv := [(0, .ref q_o)]) (by decide) rfl rfl rfl ?_
  intro p e s m args below meth c A Q H locs hx hb hml hown hts hin hA hK hN hP hD hS RT ls hl
  unfold p_Mod_weigh at h
  refine lv_aload_n hx hb d_Mod_weigh_0 rfl (lv_at hl 0 rfl) ?_
  refine lv_lconst (v := 0) hx hb d_Mod_weigh_1 (by decide) ?_
  refine va_put (D := (dC, dI)) (ci := 7) (v := .long 0) (ty := .long) (C := R_Mod) (T := F_Mod) (N := 24) hx hb hts i_Mod t_Mod t_Mod_ok n_Mod hown hK hP hD hS 0 rfl rfl 15 (by decide) (hts _ k_623) (fun _ h9 => h9) rfl (by decide +kernel) rfl rfl (Nat.le_of_ble_eq_true rfl) d_Mod_weigh_2 (fun H locs hP hD hS => ?_)
  have hP : va_P (dC, dI) vwCl [(q_o, .inr (7, [.int o_thrown, .int o_width, .int o_height, .ref q_o_former, .ref q_o_later, .ref q_o_charts, .ref q_o_lows, .ref q_o_highs, .int o_repeats, .int o_wide, .int o_floor, .int o_across, .int o_down, .long o_sum, .long o_many, .long 0, .long o_below, .ref q_o_firsts, .ref q_o_changes, .int o_marked, .int o_spots, .int o_days, .ref q_o_dates, .ref q_o_kept])), (q_o_former, .inl (cI, o_former_n, .inl o_former_f)), (q_o_later, .inl (cI, o_later_n, .inl o_later_f)), (q_o_charts, .inl (cZ, o_charts_n, .inl o_charts_f))] H := hP
  have hD : va_D A [(q_o, .inr (7, [.int o_thrown, .int o_width, .int o_height, .ref q_o_former, .ref q_o_later, .ref q_o_charts, .ref q_o_lows, .ref q_o_highs, .int o_repeats, .int o_wide, .int o_floor, .int o_across, .int o_down, .long o_sum, .long o_many, .long 0, .long o_below, .ref q_o_firsts, .ref q_o_changes, .int o_marked, .int o_spots, .int o_days, .ref q_o_dates, .ref q_o_kept])), (q_o_former, .inl (cI, o_former_n, .inl o_former_f)), (q_o_later, .inl (cI, o_later_n, .inl o_later_f)), (q_o_charts, .inl (cZ, o_charts_n, .inl o_charts_f))] := hD
  refine lv_aload_n hx hb d_Mod_weigh_5 rfl (lv_at hl 0 rfl) ?_
  refine lv_lconst (v := 0) hx hb d_Mod_weigh_6 (by decide) ?_
  refine va_put (D := (dC, dI)) (ci := 7) (v := .long 0) (ty := .long) (C := R_Mod) (T := F_Mod) (N := 24) hx hb hts i_Mod t_Mod t_Mod_ok n_Mod hown hK hP hD hS 0 rfl rfl 16 (by decide) (hts _ k_624) (fun _ h9 => h9) rfl (by decide +kernel) rfl rfl (Nat.le_of_ble_eq_true rfl) d_Mod_weigh_7 (fun H locs hP hD hS => ?_)
  have hP : va_P (dC, dI) vwCl [(q_o, .inr (7, [.int o_thrown, .int o_width, .int o_height, .ref q_o_former, .ref q_o_later, .ref q_o_charts, .ref q_o_lows, .ref q_o_highs, .int o_repeats, .int o_wide, .int o_floor, .int o_across, .int o_down, .long o_sum, .long o_many, .long 0, .long 0, .ref q_o_firsts, .ref q_o_changes, .int o_marked, .int o_spots, .int o_days, .ref q_o_dates, .ref q_o_kept])), (q_o_former, .inl (cI, o_former_n, .inl o_former_f)), (q_o_later, .inl (cI, o_later_n, .inl o_later_f)), (q_o_charts, .inl (cZ, o_charts_n, .inl o_charts_f))] H := hP
  have hD : va_D A [(q_o, .inr (7, [.int o_thrown, .int o_width, .int o_height, .ref q_o_former, .ref q_o_later, .ref q_o_charts, .ref q_o_lows, .ref q_o_highs, .int o_repeats, .int o_wide, .int o_floor, .int o_across, .int o_down, .long o_sum, .long o_many, .long 0, .long 0, .ref q_o_firsts, .ref q_o_changes, .int o_marked, .int o_spots, .int o_days, .ref q_o_dates, .ref q_o_kept])), (q_o_former, .inl (cI, o_former_n, .inl o_former_f)), (q_o_later, .inl (cI, o_later_n, .inl o_later_f)), (q_o_charts, .inl (cZ, o_charts_n, .inl o_charts_f))] := hD
  refine lv_iconst (v := 0) hx hb d_Mod_weigh_10 (by decide) ?_
  refine lv_istore_n (lv' := [(1, .int 0), (0, .ref q_o)]) hx hb d_Mod_weigh_11 rfl hl (by decide) rfl (fun ls hl => ?_)
  obtain ⟨e_1, he_1, hx_1⟩ := pu_bd h
  obtain ⟨n_1, hn_1⟩ := pu_loop_it he_1
  have K_1 : ∀ (y1_8 : Int32) (z9 : Int64) (z10 : Int64) (H : Heap) (locs : List Loc) (ls : Array Slot), e_1 = (y1_8, z9, z10) → lv_has ls 3 [(1, .int y1_8), (0, .ref q_o)] → va_P (dC, dI) vwCl [(q_o, .inr (7, [.int o_thrown, .int o_width, .int o_height, .ref q_o_former, .ref q_o_later, .ref q_o_charts, .ref q_o_lows, .ref q_o_highs, .int o_repeats, .int o_wide, .int o_floor, .int o_across, .int o_down, .long o_sum, .long o_many, .long z9, .long z10, .ref q_o_firsts, .ref q_o_changes, .int o_marked, .int o_spots, .int o_days, .ref q_o_dates, .ref q_o_kept])), (q_o_former, .inl (cI, o_former_n, .inl o_former_f)), (q_o_later, .inl (cI, o_later_n, .inl o_later_f)), (q_o_charts, .inl (cZ, o_charts_n, .inl o_charts_f))] H → va_D A [(q_o, .inr (7, [.int o_thrown, .int o_width, .int o_height, .ref q_o_former, .ref q_o_later, .ref q_o_charts, .ref q_o_lows, .ref q_o_highs, .int o_repeats, .int o_wide, .int o_floor, .int o_across, .int o_down, .long o_sum, .long o_many, .long z9, .long z10, .ref q_o_firsts, .ref q_o_changes, .int o_marked, .int o_spots, .int o_days, .ref q_o_dates, .ref q_o_kept])), (q_o_former, .inl (cI, o_former_n, .inl o_former_f)), (q_o_later, .inl (cI, o_later_n, .inl o_later_f)), (q_o_charts, .inl (cZ, o_charts_n, .inl o_charts_f))] → va_S A s.heap H locs → W p l e rm_Mod_weigh s m args below meth c H locs 0 0 Q (F0 m 103 ls []) := by
    intro y1_8 z9 z10 H locs ls he hl hP hD hS
    have h := hx_1
    rw [he] at h
    try dsimp only at h
    refine lv_aload_n hx hb d_Mod_weigh_103 rfl (lv_at hl 1 rfl) ?_
    refine va_get (D := (dC, dI)) (ci := 7) (v := .long z9) (C := R_Mod) (T := F_Mod) (N := 24) hx hb hts i_Mod hown hK hP 0 rfl rfl 15 (by decide) (hts _ k_623) (fun _ h9 => h9) rfl d_Mod_weigh_104 ?_
    refine lv_lconst (v := 0) hx hb d_Mod_weigh_107 (by decide) ?_
    refine W.lcmp hx hb d_Mod_weigh_108 ?_
    obtain ⟨j_11, hj_11, hx_11⟩ := pu_bd h
    have J_11 : ∀ (j11_12 : Int64) (j11_13 : Int64) (H : Heap) (locs : List Loc) (ls : Array Slot), j_11 = (j11_12, j11_13) → lv_has ls 3 [(1, .int y1_8), (0, .ref q_o)] → va_P (dC, dI) vwCl [(q_o, .inr (7, [.int o_thrown, .int o_width, .int o_height, .ref q_o_former, .ref q_o_later, .ref q_o_charts, .ref q_o_lows, .ref q_o_highs, .int o_repeats, .int o_wide, .int o_floor, .int o_across, .int o_down, .long o_sum, .long o_many, .long j11_12, .long j11_13, .ref q_o_firsts, .ref q_o_changes, .int o_marked, .int o_spots, .int o_days, .ref q_o_dates, .ref q_o_kept])), (q_o_former, .inl (cI, o_former_n, .inl o_former_f)), (q_o_later, .inl (cI, o_later_n, .inl o_later_f)), (q_o_charts, .inl (cZ, o_charts_n, .inl o_charts_f))] H → va_D A [(q_o, .inr (7, [.int o_thrown, .int o_width, .int o_height, .ref q_o_former, .ref q_o_later, .ref q_o_charts, .ref q_o_lows, .ref q_o_highs, .int o_repeats, .int o_wide, .int o_floor, .int o_across, .int o_down, .long o_sum, .long o_many, .long j11_12, .long j11_13, .ref q_o_firsts, .ref q_o_changes, .int o_marked, .int o_spots, .int o_days, .ref q_o_dates, .ref q_o_kept])), (q_o_former, .inl (cI, o_former_n, .inl o_former_f)), (q_o_later, .inl (cI, o_later_n, .inl o_later_f)), (q_o_charts, .inl (cZ, o_charts_n, .inl o_charts_f))] → va_S A s.heap H locs → W p l e rm_Mod_weigh s m args below meth c H locs 0 0 Q (F0 m 131 ls []) := by
      intro j11_12 j11_13 H locs ls he hl hP hD hS
      have h := hx_11
      rw [he] at h
      try dsimp only at h
      refine lv_aload_n hx hb d_Mod_weigh_131 rfl (lv_at hl 1 rfl) ?_
      refine va_get (D := (dC, dI)) (ci := 7) (v := .long j11_12) (C := R_Mod) (T := F_Mod) (N := 24) hx hb hts i_Mod hown hK hP 0 rfl rfl 15 (by decide) (hts _ k_623) (fun _ h9 => h9) rfl d_Mod_weigh_132 ?_
      refine lv_aload_n hx hb d_Mod_weigh_135 rfl (lv_at hl 1 rfl) ?_
      refine va_get (D := (dC, dI)) (ci := 7) (v := .long j11_13) (C := R_Mod) (T := F_Mod) (N := 24) hx hb hts i_Mod hown hK hP 0 rfl rfl 16 (by decide) (hts _ k_624) (fun _ h9 => h9) rfl d_Mod_weigh_136 ?_
      obtain ⟨v14, hu14, h⟩ := pu_bd h
      refine cc_S (As := [.long j11_12, .long j11_13]) (rest := []) ⟨hx, hb, hml, hown, hts⟩ (c_Mod_divisor l dC dI cI cJ cZ j11_12 j11_13 v14 hu14) (cwS 2 hts (gS k_741 k_742 k_9 k_743 rfl) rfl rfl rfl hdV_Mod_divisor ⟨Nat.le_of_ble_eq_true rfl, Nat.le_of_ble_eq_true rfl⟩) hK hN hP hD hS hA [] [0, 1, 2, 3] (w0 := []) (wr := [(q_o, .inr (7, [.int o_thrown, .int o_width, .int o_height, .ref q_o_former, .ref q_o_later, .ref q_o_charts, .ref q_o_lows, .ref q_o_highs, .int o_repeats, .int o_wide, .int o_floor, .int o_across, .int o_down, .long o_sum, .long o_many, .long j11_12, .long j11_13, .ref q_o_firsts, .ref q_o_changes, .int o_marked, .int o_spots, .int o_days, .ref q_o_dates, .ref q_o_kept])), (q_o_former, .inl (cI, o_former_n, .inl o_former_f)), (q_o_later, .inl (cI, o_later_n, .inl o_later_f)), (q_o_charts, .inl (cZ, o_charts_n, .inl o_charts_f))]) rfl rfl (by decide) (by decide) (by decide) rfl hl.1 rfl (Nat.le_of_ble_eq_true rfl) d_Mod_weigh_139 ⟨Nat.le_of_ble_eq_true rfl, Nat.le_of_ble_eq_true rfl⟩ (fun w1 H locs hw1 hP hD hS => ?_)
      subst hw1
      have hP : va_P (dC, dI) vwCl [(q_o, .inr (7, [.int o_thrown, .int o_width, .int o_height, .ref q_o_former, .ref q_o_later, .ref q_o_charts, .ref q_o_lows, .ref q_o_highs, .int o_repeats, .int o_wide, .int o_floor, .int o_across, .int o_down, .long o_sum, .long o_many, .long j11_12, .long j11_13, .ref q_o_firsts, .ref q_o_changes, .int o_marked, .int o_spots, .int o_days, .ref q_o_dates, .ref q_o_kept])), (q_o_former, .inl (cI, o_former_n, .inl o_former_f)), (q_o_later, .inl (cI, o_later_n, .inl o_later_f)), (q_o_charts, .inl (cZ, o_charts_n, .inl o_charts_f))] H := hP
      have hD : va_D A [(q_o, .inr (7, [.int o_thrown, .int o_width, .int o_height, .ref q_o_former, .ref q_o_later, .ref q_o_charts, .ref q_o_lows, .ref q_o_highs, .int o_repeats, .int o_wide, .int o_floor, .int o_across, .int o_down, .long o_sum, .long o_many, .long j11_12, .long j11_13, .ref q_o_firsts, .ref q_o_changes, .int o_marked, .int o_spots, .int o_days, .ref q_o_dates, .ref q_o_kept])), (q_o_former, .inl (cI, o_former_n, .inl o_former_f)), (q_o_later, .inl (cI, o_later_n, .inl o_later_f)), (q_o_charts, .inl (cZ, o_charts_n, .inl o_charts_f))] := hD
      refine lv_lstore_n (lv' := [(1, .long v14), (0, .ref q_o)]) hx hb d_Mod_weigh_142 rfl hl (by decide) rfl (fun ls hl => ?_)
      refine lv_aload_n hx hb d_Mod_weigh_143 rfl (lv_at hl 1 rfl) ?_
      refine lv_aload_n hx hb d_Mod_weigh_144 rfl (lv_at hl 1 rfl) ?_
      refine va_get (D := (dC, dI)) (ci := 7) (v := .long j11_12) (C := R_Mod) (T := F_Mod) (N := 24) hx hb hts i_Mod hown hK hP 0 rfl rfl 15 (by decide) (hts _ k_623) (fun _ h9 => h9) rfl d_Mod_weigh_145 ?_
      refine lv_lload_n hx hb d_Mod_weigh_148 rfl (lv_at hl 0 rfl) ?_
      obtain ⟨hg, h⟩ := pu_g h
      refine lv_ldiv hx hb d_Mod_weigh_149 hg ?_
      refine va_put (D := (dC, dI)) (ci := 7) (v := .long (j11_12 / v14)) (ty := .long) (C := R_Mod) (T := F_Mod) (N := 24) hx hb hts i_Mod t_Mod t_Mod_ok n_Mod hown hK hP hD hS 0 rfl rfl 15 (by decide) (hts _ k_623) (fun _ h9 => h9) rfl (by decide +kernel) rfl rfl (Nat.le_of_ble_eq_true rfl) d_Mod_weigh_150 (fun H locs hP hD hS => ?_)
      have hP : va_P (dC, dI) vwCl [(q_o, .inr (7, [.int o_thrown, .int o_width, .int o_height, .ref q_o_former, .ref q_o_later, .ref q_o_charts, .ref q_o_lows, .ref q_o_highs, .int o_repeats, .int o_wide, .int o_floor, .int o_across, .int o_down, .long o_sum, .long o_many, .long (j11_12 / v14), .long j11_13, .ref q_o_firsts, .ref q_o_changes, .int o_marked, .int o_spots, .int o_days, .ref q_o_dates, .ref q_o_kept])), (q_o_former, .inl (cI, o_former_n, .inl o_former_f)), (q_o_later, .inl (cI, o_later_n, .inl o_later_f)), (q_o_charts, .inl (cZ, o_charts_n, .inl o_charts_f))] H := hP
      have hD : va_D A [(q_o, .inr (7, [.int o_thrown, .int o_width, .int o_height, .ref q_o_former, .ref q_o_later, .ref q_o_charts, .ref q_o_lows, .ref q_o_highs, .int o_repeats, .int o_wide, .int o_floor, .int o_across, .int o_down, .long o_sum, .long o_many, .long (j11_12 / v14), .long j11_13, .ref q_o_firsts, .ref q_o_changes, .int o_marked, .int o_spots, .int o_days, .ref q_o_dates, .ref q_o_kept])), (q_o_former, .inl (cI, o_former_n, .inl o_former_f)), (q_o_later, .inl (cI, o_later_n, .inl o_later_f)), (q_o_charts, .inl (cZ, o_charts_n, .inl o_charts_f))] := hD
      refine lv_aload_n hx hb d_Mod_weigh_153 rfl (lv_at hl 1 rfl) ?_
      refine lv_aload_n hx hb d_Mod_weigh_154 rfl (lv_at hl 1 rfl) ?_
      refine va_get (D := (dC, dI)) (ci := 7) (v := .long j11_13) (C := R_Mod) (T := F_Mod) (N := 24) hx hb hts i_Mod hown hK hP 0 rfl rfl 16 (by decide) (hts _ k_624) (fun _ h9 => h9) rfl d_Mod_weigh_155 ?_
      refine lv_lload_n hx hb d_Mod_weigh_158 rfl (lv_at hl 0 rfl) ?_
      obtain ⟨hg, h⟩ := pu_g h
      refine lv_ldiv hx hb d_Mod_weigh_159 hg ?_
      refine va_put (D := (dC, dI)) (ci := 7) (v := .long (j11_13 / v14)) (ty := .long) (C := R_Mod) (T := F_Mod) (N := 24) hx hb hts i_Mod t_Mod t_Mod_ok n_Mod hown hK hP hD hS 0 rfl rfl 16 (by decide) (hts _ k_624) (fun _ h9 => h9) rfl (by decide +kernel) rfl rfl (Nat.le_of_ble_eq_true rfl) d_Mod_weigh_160 (fun H locs hP hD hS => ?_)
      have hP : va_P (dC, dI) vwCl [(q_o, .inr (7, [.int o_thrown, .int o_width, .int o_height, .ref q_o_former, .ref q_o_later, .ref q_o_charts, .ref q_o_lows, .ref q_o_highs, .int o_repeats, .int o_wide, .int o_floor, .int o_across, .int o_down, .long o_sum, .long o_many, .long (j11_12 / v14), .long (j11_13 / v14), .ref q_o_firsts, .ref q_o_changes, .int o_marked, .int o_spots, .int o_days, .ref q_o_dates, .ref q_o_kept])), (q_o_former, .inl (cI, o_former_n, .inl o_former_f)), (q_o_later, .inl (cI, o_later_n, .inl o_later_f)), (q_o_charts, .inl (cZ, o_charts_n, .inl o_charts_f))] H := hP
      have hD : va_D A [(q_o, .inr (7, [.int o_thrown, .int o_width, .int o_height, .ref q_o_former, .ref q_o_later, .ref q_o_charts, .ref q_o_lows, .ref q_o_highs, .int o_repeats, .int o_wide, .int o_floor, .int o_across, .int o_down, .long o_sum, .long o_many, .long (j11_12 / v14), .long (j11_13 / v14), .ref q_o_firsts, .ref q_o_changes, .int o_marked, .int o_spots, .int o_days, .ref q_o_dates, .ref q_o_kept])), (q_o_former, .inl (cI, o_former_n, .inl o_former_f)), (q_o_later, .inl (cI, o_later_n, .inl o_later_f)), (q_o_charts, .inl (cZ, o_charts_n, .inl o_charts_f))] := hD
      cases h
      refine W.widen (k := 0) (n := 0) (Nat.le_of_ble_eq_true rfl) (Nat.le_of_ble_eq_true rfl) ?_
      exact RT 163 ls H locs _ d_Mod_weigh_163 (Or.inl ⟨rfl, rfl⟩) rfl (hP.sub [0, 1, 2, 3] rfl) (hD.sub [0, 1, 2, 3] (by decide) rfl) hS
    have h := hj_11
    refine lv_if_eq (tgt := 121) hx hb d_Mod_weigh_109 (by decide) (fun hc => ?_) (fun hc => ?_)
    · have h := pu_t hc h
      refine lv_aload_n hx hb d_Mod_weigh_121 rfl (lv_at hl 1 rfl) ?_
      refine lv_lconst (v := 1) hx hb d_Mod_weigh_122 (by decide) ?_
      refine va_put (D := (dC, dI)) (ci := 7) (v := .long 1) (ty := .long) (C := R_Mod) (T := F_Mod) (N := 24) hx hb hts i_Mod t_Mod t_Mod_ok n_Mod hown hK hP hD hS 0 rfl rfl 15 (by decide) (hts _ k_623) (fun _ h9 => h9) rfl (by decide +kernel) rfl rfl (Nat.le_of_ble_eq_true rfl) d_Mod_weigh_123 (fun H locs hP hD hS => ?_)
      have hP : va_P (dC, dI) vwCl [(q_o, .inr (7, [.int o_thrown, .int o_width, .int o_height, .ref q_o_former, .ref q_o_later, .ref q_o_charts, .ref q_o_lows, .ref q_o_highs, .int o_repeats, .int o_wide, .int o_floor, .int o_across, .int o_down, .long o_sum, .long o_many, .long 1, .long z10, .ref q_o_firsts, .ref q_o_changes, .int o_marked, .int o_spots, .int o_days, .ref q_o_dates, .ref q_o_kept])), (q_o_former, .inl (cI, o_former_n, .inl o_former_f)), (q_o_later, .inl (cI, o_later_n, .inl o_later_f)), (q_o_charts, .inl (cZ, o_charts_n, .inl o_charts_f))] H := hP
      have hD : va_D A [(q_o, .inr (7, [.int o_thrown, .int o_width, .int o_height, .ref q_o_former, .ref q_o_later, .ref q_o_charts, .ref q_o_lows, .ref q_o_highs, .int o_repeats, .int o_wide, .int o_floor, .int o_across, .int o_down, .long o_sum, .long o_many, .long 1, .long z10, .ref q_o_firsts, .ref q_o_changes, .int o_marked, .int o_spots, .int o_days, .ref q_o_dates, .ref q_o_kept])), (q_o_former, .inl (cI, o_former_n, .inl o_former_f)), (q_o_later, .inl (cI, o_later_n, .inl o_later_f)), (q_o_charts, .inl (cZ, o_charts_n, .inl o_charts_f))] := hD
      refine lv_aload_n hx hb d_Mod_weigh_126 rfl (lv_at hl 1 rfl) ?_
      refine lv_lconst (v := 1) hx hb d_Mod_weigh_127 (by decide) ?_
      refine va_put (D := (dC, dI)) (ci := 7) (v := .long 1) (ty := .long) (C := R_Mod) (T := F_Mod) (N := 24) hx hb hts i_Mod t_Mod t_Mod_ok n_Mod hown hK hP hD hS 0 rfl rfl 16 (by decide) (hts _ k_624) (fun _ h9 => h9) rfl (by decide +kernel) rfl rfl (Nat.le_of_ble_eq_true rfl) d_Mod_weigh_128 (fun H locs hP hD hS => ?_)
      have hP : va_P (dC, dI) vwCl [(q_o, .inr (7, [.int o_thrown, .int o_width, .int o_height, .ref q_o_former, .ref q_o_later, .ref q_o_charts, .ref q_o_lows, .ref q_o_highs, .int o_repeats, .int o_wide, .int o_floor, .int o_across, .int o_down, .long o_sum, .long o_many, .long 1, .long 1, .ref q_o_firsts, .ref q_o_changes, .int o_marked, .int o_spots, .int o_days, .ref q_o_dates, .ref q_o_kept])), (q_o_former, .inl (cI, o_former_n, .inl o_former_f)), (q_o_later, .inl (cI, o_later_n, .inl o_later_f)), (q_o_charts, .inl (cZ, o_charts_n, .inl o_charts_f))] H := hP
      have hD : va_D A [(q_o, .inr (7, [.int o_thrown, .int o_width, .int o_height, .ref q_o_former, .ref q_o_later, .ref q_o_charts, .ref q_o_lows, .ref q_o_highs, .int o_repeats, .int o_wide, .int o_floor, .int o_across, .int o_down, .long o_sum, .long o_many, .long 1, .long 1, .ref q_o_firsts, .ref q_o_changes, .int o_marked, .int o_spots, .int o_days, .ref q_o_dates, .ref q_o_kept])), (q_o_former, .inl (cI, o_former_n, .inl o_former_f)), (q_o_later, .inl (cI, o_later_n, .inl o_later_f)), (q_o_charts, .inl (cZ, o_charts_n, .inl o_charts_f))] := hD
      exact J_11 1 1 H locs ls (Option.some.inj h).symm (lv_sub hl [0, 1] rfl) (hP.sub [0, 1, 2, 3] rfl) (hD.sub [0, 1, 2, 3] (by decide) rfl) hS
    · have h := pu_f hc h
      refine lv_aload_n hx hb d_Mod_weigh_112 rfl (lv_at hl 1 rfl) ?_
      refine va_get (D := (dC, dI)) (ci := 7) (v := .long z10) (C := R_Mod) (T := F_Mod) (N := 24) hx hb hts i_Mod hown hK hP 0 rfl rfl 16 (by decide) (hts _ k_624) (fun _ h9 => h9) rfl d_Mod_weigh_113 ?_
      refine lv_lconst (v := 0) hx hb d_Mod_weigh_116 (by decide) ?_
      refine W.lcmp hx hb d_Mod_weigh_117 ?_
      refine lv_if_ne (tgt := 131) hx hb d_Mod_weigh_118 (by decide) (fun hc => ?_) (fun hc => ?_)
      · have h := pu_f hc h
        exact J_11 z9 z10 H locs ls (Option.some.inj h).symm (lv_sub hl [0, 1] rfl) (hP.sub [0, 1, 2, 3] rfl) (hD.sub [0, 1, 2, 3] (by decide) rfl) hS
      · have h := pu_t hc h
        refine lv_aload_n hx hb d_Mod_weigh_121 rfl (lv_at hl 1 rfl) ?_
        refine lv_lconst (v := 1) hx hb d_Mod_weigh_122 (by decide) ?_
        refine va_put (D := (dC, dI)) (ci := 7) (v := .long 1) (ty := .long) (C := R_Mod) (T := F_Mod) (N := 24) hx hb hts i_Mod t_Mod t_Mod_ok n_Mod hown hK hP hD hS 0 rfl rfl 15 (by decide) (hts _ k_623) (fun _ h9 => h9) rfl (by decide +kernel) rfl rfl (Nat.le_of_ble_eq_true rfl) d_Mod_weigh_123 (fun H locs hP hD hS => ?_)
        have hP : va_P (dC, dI) vwCl [(q_o, .inr (7, [.int o_thrown, .int o_width, .int o_height, .ref q_o_former, .ref q_o_later, .ref q_o_charts, .ref q_o_lows, .ref q_o_highs, .int o_repeats, .int o_wide, .int o_floor, .int o_across, .int o_down, .long o_sum, .long o_many, .long 1, .long z10, .ref q_o_firsts, .ref q_o_changes, .int o_marked, .int o_spots, .int o_days, .ref q_o_dates, .ref q_o_kept])), (q_o_former, .inl (cI, o_former_n, .inl o_former_f)), (q_o_later, .inl (cI, o_later_n, .inl o_later_f)), (q_o_charts, .inl (cZ, o_charts_n, .inl o_charts_f))] H := hP
        have hD : va_D A [(q_o, .inr (7, [.int o_thrown, .int o_width, .int o_height, .ref q_o_former, .ref q_o_later, .ref q_o_charts, .ref q_o_lows, .ref q_o_highs, .int o_repeats, .int o_wide, .int o_floor, .int o_across, .int o_down, .long o_sum, .long o_many, .long 1, .long z10, .ref q_o_firsts, .ref q_o_changes, .int o_marked, .int o_spots, .int o_days, .ref q_o_dates, .ref q_o_kept])), (q_o_former, .inl (cI, o_former_n, .inl o_former_f)), (q_o_later, .inl (cI, o_later_n, .inl o_later_f)), (q_o_charts, .inl (cZ, o_charts_n, .inl o_charts_f))] := hD
        refine lv_aload_n hx hb d_Mod_weigh_126 rfl (lv_at hl 1 rfl) ?_
        refine lv_lconst (v := 1) hx hb d_Mod_weigh_127 (by decide) ?_
        refine va_put (D := (dC, dI)) (ci := 7) (v := .long 1) (ty := .long) (C := R_Mod) (T := F_Mod) (N := 24) hx hb hts i_Mod t_Mod t_Mod_ok n_Mod hown hK hP hD hS 0 rfl rfl 16 (by decide) (hts _ k_624) (fun _ h9 => h9) rfl (by decide +kernel) rfl rfl (Nat.le_of_ble_eq_true rfl) d_Mod_weigh_128 (fun H locs hP hD hS => ?_)
        have hP : va_P (dC, dI) vwCl [(q_o, .inr (7, [.int o_thrown, .int o_width, .int o_height, .ref q_o_former, .ref q_o_later, .ref q_o_charts, .ref q_o_lows, .ref q_o_highs, .int o_repeats, .int o_wide, .int o_floor, .int o_across, .int o_down, .long o_sum, .long o_many, .long 1, .long 1, .ref q_o_firsts, .ref q_o_changes, .int o_marked, .int o_spots, .int o_days, .ref q_o_dates, .ref q_o_kept])), (q_o_former, .inl (cI, o_former_n, .inl o_former_f)), (q_o_later, .inl (cI, o_later_n, .inl o_later_f)), (q_o_charts, .inl (cZ, o_charts_n, .inl o_charts_f))] H := hP
        have hD : va_D A [(q_o, .inr (7, [.int o_thrown, .int o_width, .int o_height, .ref q_o_former, .ref q_o_later, .ref q_o_charts, .ref q_o_lows, .ref q_o_highs, .int o_repeats, .int o_wide, .int o_floor, .int o_across, .int o_down, .long o_sum, .long o_many, .long 1, .long 1, .ref q_o_firsts, .ref q_o_changes, .int o_marked, .int o_spots, .int o_days, .ref q_o_dates, .ref q_o_kept])), (q_o_former, .inl (cI, o_former_n, .inl o_former_f)), (q_o_later, .inl (cI, o_later_n, .inl o_later_f)), (q_o_charts, .inl (cZ, o_charts_n, .inl o_charts_f))] := hD
        exact J_11 1 1 H locs ls (Option.some.inj h).symm (lv_sub hl [0, 1] rfl) (hP.sub [0, 1, 2, 3] rfl) (hD.sub [0, 1, 2, 3] (by decide) rfl) hS
  have L_1 : ∀ (n : Nat) (x1_2 : Int32) (o_above_3 : Int64) (o_below_4 : Int64) (H : Heap) (locs : List Loc) (ls : Array Slot), pu_it (p_Mod_weigh_L1 o_thrown o_width o_height o_repeats o_wide o_floor o_across o_down o_sum o_many o_marked o_spots o_days o_former_n o_former_f o_later_n o_later_f o_charts_n o_charts_f) n (x1_2, o_above_3, o_below_4) = some e_1 → lv_has ls 3 [(1, .int x1_2), (0, .ref q_o)] → va_P (dC, dI) vwCl [(q_o, .inr (7, [.int o_thrown, .int o_width, .int o_height, .ref q_o_former, .ref q_o_later, .ref q_o_charts, .ref q_o_lows, .ref q_o_highs, .int o_repeats, .int o_wide, .int o_floor, .int o_across, .int o_down, .long o_sum, .long o_many, .long o_above_3, .long o_below_4, .ref q_o_firsts, .ref q_o_changes, .int o_marked, .int o_spots, .int o_days, .ref q_o_dates, .ref q_o_kept])), (q_o_former, .inl (cI, o_former_n, .inl o_former_f)), (q_o_later, .inl (cI, o_later_n, .inl o_later_f)), (q_o_charts, .inl (cZ, o_charts_n, .inl o_charts_f))] H → va_D A [(q_o, .inr (7, [.int o_thrown, .int o_width, .int o_height, .ref q_o_former, .ref q_o_later, .ref q_o_charts, .ref q_o_lows, .ref q_o_highs, .int o_repeats, .int o_wide, .int o_floor, .int o_across, .int o_down, .long o_sum, .long o_many, .long o_above_3, .long o_below_4, .ref q_o_firsts, .ref q_o_changes, .int o_marked, .int o_spots, .int o_days, .ref q_o_dates, .ref q_o_kept])), (q_o_former, .inl (cI, o_former_n, .inl o_former_f)), (q_o_later, .inl (cI, o_later_n, .inl o_later_f)), (q_o_charts, .inl (cZ, o_charts_n, .inl o_charts_f))] → va_S A s.heap H locs → W p l e rm_Mod_weigh s m args below meth c H locs 0 0 Q (F0 m 12 ls []) := by
    intro n
    induction n with
    | zero => intro x1_2 o_above_3 o_below_4 H locs ls hn; exact (pu_it_0 hn).elim
    | succ n ih =>
      intro x1_2 o_above_3 o_below_4 H locs ls hn hl hP hD hS
      obtain ⟨r_1, h, hr_1⟩ := pu_it_succ hn
      unfold p_Mod_weigh_L1 at h
      try dsimp only at h
      refine lv_iload_n hx hb d_Mod_weigh_12 rfl (lv_at hl 0 rfl) ?_
      refine lv_sipush (v := 576) hx hb d_Mod_weigh_13 (by decide) ?_
      refine lv_icmp_ge (tgt := 103) hx hb d_Mod_weigh_16 (by decide) (fun hc => ?_) (fun hc => ?_)
      · have h := pu_t hc h
        cases h
        exact K_1 x1_2 o_above_3 o_below_4 H locs ls hr_1.symm (lv_sub hl [0, 1] rfl) (hP.sub [0, 1, 2, 3] rfl) (hD.sub [0, 1, 2, 3] (by decide) rfl) hS
      · have h := pu_f hc h
        refine lv_aload_n hx hb d_Mod_weigh_19 rfl (lv_at hl 1 rfl) ?_
        refine va_get (D := (dC, dI)) (ci := 7) (v := .ref q_o_charts) (C := R_Mod) (T := F_Mod) (N := 24) hx hb hts i_Mod hown hK hP 0 rfl rfl 5 (by decide) (hts _ k_613) (fun _ h9 => h9) rfl d_Mod_weigh_20 ?_
        refine lv_iload_n hx hb d_Mod_weigh_23 rfl (lv_at hl 0 rfl) ?_
        obtain ⟨hg, h⟩ := pu_g h
        refine va_zald hx hb hK hP 3 2 rfl rfl hg d_Mod_weigh_24 ?_
        obtain ⟨j_5, hj_5, hx_5⟩ := pu_bd h
        have J_5 : ∀ (j5_7 : Int32) (H : Heap) (locs : List Loc) (ls : Array Slot), j_5 = j5_7 → lv_has ls 3 [(1, .int x1_2), (0, .ref q_o)] → va_P (dC, dI) vwCl [(q_o, .inr (7, [.int o_thrown, .int o_width, .int o_height, .ref q_o_former, .ref q_o_later, .ref q_o_charts, .ref q_o_lows, .ref q_o_highs, .int o_repeats, .int o_wide, .int o_floor, .int o_across, .int o_down, .long o_sum, .long o_many, .long o_above_3, .long o_below_4, .ref q_o_firsts, .ref q_o_changes, .int o_marked, .int o_spots, .int o_days, .ref q_o_dates, .ref q_o_kept])), (q_o_former, .inl (cI, o_former_n, .inl o_former_f)), (q_o_later, .inl (cI, o_later_n, .inl o_later_f)), (q_o_charts, .inl (cZ, o_charts_n, .inl o_charts_f))] H → va_D A [(q_o, .inr (7, [.int o_thrown, .int o_width, .int o_height, .ref q_o_former, .ref q_o_later, .ref q_o_charts, .ref q_o_lows, .ref q_o_highs, .int o_repeats, .int o_wide, .int o_floor, .int o_across, .int o_down, .long o_sum, .long o_many, .long o_above_3, .long o_below_4, .ref q_o_firsts, .ref q_o_changes, .int o_marked, .int o_spots, .int o_days, .ref q_o_dates, .ref q_o_kept])), (q_o_former, .inl (cI, o_former_n, .inl o_former_f)), (q_o_later, .inl (cI, o_later_n, .inl o_later_f)), (q_o_charts, .inl (cZ, o_charts_n, .inl o_charts_f))] → va_S A s.heap H locs → W p l e rm_Mod_weigh s m args below meth c H locs 0 0 Q (F0 m 45 ls [.int j5_7]) := by
          intro j5_7 H locs ls he hl hP hD hS
          have h := hx_5
          rw [he] at h
          try dsimp only at h
          refine lv_istore_n (lv' := [(2, .int j5_7), (1, .int x1_2), (0, .ref q_o)]) hx hb d_Mod_weigh_45 rfl hl (by decide) rfl (fun ls hl => ?_)
          refine lv_iload_n hx hb d_Mod_weigh_46 rfl (lv_at hl 0 rfl) ?_
          refine lv_iconst (v := (-1)) hx hb d_Mod_weigh_47 (by decide) ?_
          refine lv_icmp_eq (tgt := 97) hx hb d_Mod_weigh_48 (by decide) (fun hc => ?_) (fun hc => ?_)
          · have h := pu_t hc h
            refine lv_iinc (v := (x1_2 + 1)) (lv' := [(1, .int (x1_2 + 1)), (2, .int j5_7), (0, .ref q_o)]) hx hb d_Mod_weigh_97 hl (k := 1) rfl rfl (by decide) rfl (fun ls hl => ?_)
            refine lv_goto (tgt := 12) hx hb d_Mod_weigh_100 (by decide) ?_
            cases h
            exact ih (x1_2 + 1) o_above_3 o_below_4 H locs ls hr_1 (lv_sub hl [0, 2] rfl) (hP.sub [0, 1, 2, 3] rfl) (hD.sub [0, 1, 2, 3] (by decide) rfl) hS
          · have h := pu_f hc h
            refine lv_aload_n hx hb d_Mod_weigh_51 rfl (lv_at hl 2 rfl) ?_
            refine lv_aload_n hx hb d_Mod_weigh_52 rfl (lv_at hl 2 rfl) ?_
            refine va_get (D := (dC, dI)) (ci := 7) (v := .long o_above_3) (C := R_Mod) (T := F_Mod) (N := 24) hx hb hts i_Mod hown hK hP 0 rfl rfl 15 (by decide) (hts _ k_623) (fun _ h9 => h9) rfl d_Mod_weigh_53 ?_
            refine lv_aload_n hx hb d_Mod_weigh_56 rfl (lv_at hl 2 rfl) ?_
            refine va_get (D := (dC, dI)) (ci := 7) (v := .ref q_o_former) (C := R_Mod) (T := F_Mod) (N := 24) hx hb hts i_Mod hown hK hP 0 rfl rfl 3 (by decide) (hts _ k_611) (fun _ h9 => h9) rfl d_Mod_weigh_57 ?_
            refine lv_iload_n hx hb d_Mod_weigh_60 rfl (lv_at hl 1 rfl) ?_
            obtain ⟨hg, h⟩ := pu_g h
            refine va_iald hx hb hK hP 1 0 rfl rfl hg d_Mod_weigh_61 ?_
            refine lv_aload_n hx hb d_Mod_weigh_62 rfl (lv_at hl 2 rfl) ?_
            refine va_get (D := (dC, dI)) (ci := 7) (v := .ref q_o_later) (C := R_Mod) (T := F_Mod) (N := 24) hx hb hts i_Mod hown hK hP 0 rfl rfl 4 (by decide) (hts _ k_612) (fun _ h9 => h9) rfl d_Mod_weigh_63 ?_
            refine lv_iload_n hx hb d_Mod_weigh_66 rfl (lv_at hl 0 rfl) ?_
            obtain ⟨hg, h⟩ := pu_g h
            refine va_iald hx hb hK hP 2 0 rfl rfl hg d_Mod_weigh_67 ?_
            refine lv_imul hx hb d_Mod_weigh_68 ?_
            refine lv_i2l hx hb d_Mod_weigh_69 rfl ?_
            refine lv_ladd hx hb d_Mod_weigh_70 ?_
            refine va_put (D := (dC, dI)) (ci := 7) (v := .long (o_above_3 + (((o_former_f x1_2.toNatClampNeg) * (o_later_f j5_7.toNatClampNeg)).toInt64))) (ty := .long) (C := R_Mod) (T := F_Mod) (N := 24) hx hb hts i_Mod t_Mod t_Mod_ok n_Mod hown hK hP hD hS 0 rfl rfl 15 (by decide) (hts _ k_623) (fun _ h9 => h9) rfl (by decide +kernel) rfl rfl (Nat.le_of_ble_eq_true rfl) d_Mod_weigh_71 (fun H locs hP hD hS => ?_)
            have hP : va_P (dC, dI) vwCl [(q_o, .inr (7, [.int o_thrown, .int o_width, .int o_height, .ref q_o_former, .ref q_o_later, .ref q_o_charts, .ref q_o_lows, .ref q_o_highs, .int o_repeats, .int o_wide, .int o_floor, .int o_across, .int o_down, .long o_sum, .long o_many, .long (o_above_3 + (((o_former_f x1_2.toNatClampNeg) * (o_later_f j5_7.toNatClampNeg)).toInt64)), .long o_below_4, .ref q_o_firsts, .ref q_o_changes, .int o_marked, .int o_spots, .int o_days, .ref q_o_dates, .ref q_o_kept])), (q_o_former, .inl (cI, o_former_n, .inl o_former_f)), (q_o_later, .inl (cI, o_later_n, .inl o_later_f)), (q_o_charts, .inl (cZ, o_charts_n, .inl o_charts_f))] H := hP
            have hD : va_D A [(q_o, .inr (7, [.int o_thrown, .int o_width, .int o_height, .ref q_o_former, .ref q_o_later, .ref q_o_charts, .ref q_o_lows, .ref q_o_highs, .int o_repeats, .int o_wide, .int o_floor, .int o_across, .int o_down, .long o_sum, .long o_many, .long (o_above_3 + (((o_former_f x1_2.toNatClampNeg) * (o_later_f j5_7.toNatClampNeg)).toInt64)), .long o_below_4, .ref q_o_firsts, .ref q_o_changes, .int o_marked, .int o_spots, .int o_days, .ref q_o_dates, .ref q_o_kept])), (q_o_former, .inl (cI, o_former_n, .inl o_former_f)), (q_o_later, .inl (cI, o_later_n, .inl o_later_f)), (q_o_charts, .inl (cZ, o_charts_n, .inl o_charts_f))] := hD
            refine lv_aload_n hx hb d_Mod_weigh_74 rfl (lv_at hl 2 rfl) ?_
            refine lv_aload_n hx hb d_Mod_weigh_75 rfl (lv_at hl 2 rfl) ?_
            refine va_get (D := (dC, dI)) (ci := 7) (v := .long o_below_4) (C := R_Mod) (T := F_Mod) (N := 24) hx hb hts i_Mod hown hK hP 0 rfl rfl 16 (by decide) (hts _ k_624) (fun _ h9 => h9) rfl d_Mod_weigh_76 ?_
            refine lv_aload_n hx hb d_Mod_weigh_79 rfl (lv_at hl 2 rfl) ?_
            refine va_get (D := (dC, dI)) (ci := 7) (v := .ref q_o_later) (C := R_Mod) (T := F_Mod) (N := 24) hx hb hts i_Mod hown hK hP 0 rfl rfl 4 (by decide) (hts _ k_612) (fun _ h9 => h9) rfl d_Mod_weigh_80 ?_
            refine lv_iload_n hx hb d_Mod_weigh_83 rfl (lv_at hl 0 rfl) ?_
            obtain ⟨hg, h⟩ := pu_g h
            refine va_iald hx hb hK hP 2 0 rfl rfl hg d_Mod_weigh_84 ?_
            refine lv_aload_n hx hb d_Mod_weigh_85 rfl (lv_at hl 2 rfl) ?_
            refine va_get (D := (dC, dI)) (ci := 7) (v := .ref q_o_later) (C := R_Mod) (T := F_Mod) (N := 24) hx hb hts i_Mod hown hK hP 0 rfl rfl 4 (by decide) (hts _ k_612) (fun _ h9 => h9) rfl d_Mod_weigh_86 ?_
            refine lv_iload_n hx hb d_Mod_weigh_89 rfl (lv_at hl 0 rfl) ?_
            obtain ⟨hg, h⟩ := pu_g h
            refine va_iald hx hb hK hP 2 0 rfl rfl hg d_Mod_weigh_90 ?_
            refine lv_imul hx hb d_Mod_weigh_91 ?_
            refine lv_i2l hx hb d_Mod_weigh_92 rfl ?_
            refine lv_ladd hx hb d_Mod_weigh_93 ?_
            refine va_put (D := (dC, dI)) (ci := 7) (v := .long (o_below_4 + (((o_later_f j5_7.toNatClampNeg) * (o_later_f j5_7.toNatClampNeg)).toInt64))) (ty := .long) (C := R_Mod) (T := F_Mod) (N := 24) hx hb hts i_Mod t_Mod t_Mod_ok n_Mod hown hK hP hD hS 0 rfl rfl 16 (by decide) (hts _ k_624) (fun _ h9 => h9) rfl (by decide +kernel) rfl rfl (Nat.le_of_ble_eq_true rfl) d_Mod_weigh_94 (fun H locs hP hD hS => ?_)
            have hP : va_P (dC, dI) vwCl [(q_o, .inr (7, [.int o_thrown, .int o_width, .int o_height, .ref q_o_former, .ref q_o_later, .ref q_o_charts, .ref q_o_lows, .ref q_o_highs, .int o_repeats, .int o_wide, .int o_floor, .int o_across, .int o_down, .long o_sum, .long o_many, .long (o_above_3 + (((o_former_f x1_2.toNatClampNeg) * (o_later_f j5_7.toNatClampNeg)).toInt64)), .long (o_below_4 + (((o_later_f j5_7.toNatClampNeg) * (o_later_f j5_7.toNatClampNeg)).toInt64)), .ref q_o_firsts, .ref q_o_changes, .int o_marked, .int o_spots, .int o_days, .ref q_o_dates, .ref q_o_kept])), (q_o_former, .inl (cI, o_former_n, .inl o_former_f)), (q_o_later, .inl (cI, o_later_n, .inl o_later_f)), (q_o_charts, .inl (cZ, o_charts_n, .inl o_charts_f))] H := hP
            have hD : va_D A [(q_o, .inr (7, [.int o_thrown, .int o_width, .int o_height, .ref q_o_former, .ref q_o_later, .ref q_o_charts, .ref q_o_lows, .ref q_o_highs, .int o_repeats, .int o_wide, .int o_floor, .int o_across, .int o_down, .long o_sum, .long o_many, .long (o_above_3 + (((o_former_f x1_2.toNatClampNeg) * (o_later_f j5_7.toNatClampNeg)).toInt64)), .long (o_below_4 + (((o_later_f j5_7.toNatClampNeg) * (o_later_f j5_7.toNatClampNeg)).toInt64)), .ref q_o_firsts, .ref q_o_changes, .int o_marked, .int o_spots, .int o_days, .ref q_o_dates, .ref q_o_kept])), (q_o_former, .inl (cI, o_former_n, .inl o_former_f)), (q_o_later, .inl (cI, o_later_n, .inl o_later_f)), (q_o_charts, .inl (cZ, o_charts_n, .inl o_charts_f))] := hD
            refine lv_iinc (v := (x1_2 + 1)) (lv' := [(1, .int (x1_2 + 1)), (2, .int j5_7), (0, .ref q_o)]) hx hb d_Mod_weigh_97 hl (k := 1) rfl rfl (by decide) rfl (fun ls hl => ?_)
            refine lv_goto (tgt := 12) hx hb d_Mod_weigh_100 (by decide) ?_
            cases h
            exact ih (x1_2 + 1) (o_above_3 + (((o_former_f x1_2.toNatClampNeg) * (o_later_f j5_7.toNatClampNeg)).toInt64)) (o_below_4 + (((o_later_f j5_7.toNatClampNeg) * (o_later_f j5_7.toNatClampNeg)).toInt64)) H locs ls hr_1 (lv_sub hl [0, 2] rfl) (hP.sub [0, 1, 2, 3] rfl) (hD.sub [0, 1, 2, 3] (by decide) rfl) hS
        have h := hj_5
        refine lv_if_eq (tgt := 44) hx hb d_Mod_weigh_25 (by decide) (fun hc => ?_) (fun hc => ?_)
        · have h := pu_t hc h
          refine lv_iconst (v := (-1)) hx hb d_Mod_weigh_44 (by decide) ?_
          exact J_5 (-1) H locs ls (Option.some.inj h).symm (lv_sub hl [0, 1] rfl) (hP.sub [0, 1, 2, 3] rfl) (hD.sub [0, 1, 2, 3] (by decide) rfl) hS
        · have h := pu_f hc h
          refine lv_aload_n hx hb d_Mod_weigh_28 rfl (lv_at hl 1 rfl) ?_
          refine lv_iload_n hx hb d_Mod_weigh_29 rfl (lv_at hl 0 rfl) ?_
          refine lv_aload_n hx hb d_Mod_weigh_30 rfl (lv_at hl 1 rfl) ?_
          refine va_get (D := (dC, dI)) (ci := 7) (v := .int o_across) (C := R_Mod) (T := F_Mod) (N := 24) hx hb hts i_Mod hown hK hP 0 rfl rfl 11 (by decide) (hts _ k_619) (fun _ h9 => h9) rfl d_Mod_weigh_31 ?_
          refine lv_aload_n hx hb d_Mod_weigh_34 rfl (lv_at hl 1 rfl) ?_
          refine va_get (D := (dC, dI)) (ci := 7) (v := .int o_down) (C := R_Mod) (T := F_Mod) (N := 24) hx hb hts i_Mod hown hK hP 0 rfl rfl 12 (by decide) (hts _ k_620) (fun _ h9 => h9) rfl d_Mod_weigh_35 ?_
          obtain ⟨v6, hu6, h⟩ := pu_bd h
          refine cc_V (As := [.int x1_2, .int o_across, .int o_down]) (rest := []) ⟨hx, hb, hml, hown, hts⟩ (c_Mod_under l dC dI cI cJ cZ q_o q_o_former q_o_later q_o_charts q_o_lows q_o_highs q_o_firsts q_o_changes q_o_dates q_o_kept x1_2 o_across o_down o_thrown o_width o_height o_repeats o_wide o_floor o_across o_down o_sum o_many o_above_3 o_below_4 o_marked o_spots o_days v6 hu6) (cwV 3 hts (gV k_710 k_712 kp_18 k_9 k_713 rfl) rfl rfl rfl hdV_Mod_under ⟨Nat.le_of_ble_eq_true rfl, Nat.le_of_ble_eq_true rfl⟩) hK hN hP hD hS hA [0] [1, 2, 3] (w0 := [(q_o, .inr (7, [.int o_thrown, .int o_width, .int o_height, .ref q_o_former, .ref q_o_later, .ref q_o_charts, .ref q_o_lows, .ref q_o_highs, .int o_repeats, .int o_wide, .int o_floor, .int o_across, .int o_down, .long o_sum, .long o_many, .long o_above_3, .long o_below_4, .ref q_o_firsts, .ref q_o_changes, .int o_marked, .int o_spots, .int o_days, .ref q_o_dates, .ref q_o_kept]))]) (wr := [(q_o_former, .inl (cI, o_former_n, .inl o_former_f)), (q_o_later, .inl (cI, o_later_n, .inl o_later_f)), (q_o_charts, .inl (cZ, o_charts_n, .inl o_charts_f))]) rfl rfl (by decide) (by decide) (by decide) 7 rfl rfl rfl hl.1 rfl (Nat.le_of_ble_eq_true rfl) d_Mod_weigh_38 ⟨Nat.le_of_ble_eq_true rfl, Nat.le_of_ble_eq_true rfl⟩ (fun w1 H locs hw1 hP hD hS => ?_)
          subst hw1
          have hP : va_P (dC, dI) vwCl [(q_o_former, .inl (cI, o_former_n, .inl o_former_f)), (q_o_later, .inl (cI, o_later_n, .inl o_later_f)), (q_o_charts, .inl (cZ, o_charts_n, .inl o_charts_f)), (q_o, .inr (7, [.int o_thrown, .int o_width, .int o_height, .ref q_o_former, .ref q_o_later, .ref q_o_charts, .ref q_o_lows, .ref q_o_highs, .int o_repeats, .int o_wide, .int o_floor, .int o_across, .int o_down, .long o_sum, .long o_many, .long o_above_3, .long o_below_4, .ref q_o_firsts, .ref q_o_changes, .int o_marked, .int o_spots, .int o_days, .ref q_o_dates, .ref q_o_kept]))] H := hP
          have hD : va_D A [(q_o_former, .inl (cI, o_former_n, .inl o_former_f)), (q_o_later, .inl (cI, o_later_n, .inl o_later_f)), (q_o_charts, .inl (cZ, o_charts_n, .inl o_charts_f)), (q_o, .inr (7, [.int o_thrown, .int o_width, .int o_height, .ref q_o_former, .ref q_o_later, .ref q_o_charts, .ref q_o_lows, .ref q_o_highs, .int o_repeats, .int o_wide, .int o_floor, .int o_across, .int o_down, .long o_sum, .long o_many, .long o_above_3, .long o_below_4, .ref q_o_firsts, .ref q_o_changes, .int o_marked, .int o_spots, .int o_days, .ref q_o_dates, .ref q_o_kept]))] := hD
          refine lv_goto (tgt := 45) hx hb d_Mod_weigh_41 (by decide) ?_
          exact J_5 v6 H locs ls (Option.some.inj h).symm (lv_sub hl [0, 1] rfl) (hP.sub [3, 0, 1, 2] rfl) (hD.sub [3, 0, 1, 2] (by decide) rfl) hS
  exact L_1 n_1 0 0 0 H locs ls hn_1 hl hP hD hS

noncomputable def p_Mod_gain (a1 : Int32) (o_thrown : Int32) (o_width : Int32) (o_height : Int32) (o_repeats : Int32) (o_wide : Int32) (o_floor : Int32) (o_across : Int32) (o_down : Int32) (o_sum : Int64) (o_many : Int64) (o_above : Int64) (o_below : Int64) (o_marked : Int32) (o_spots : Int32) (o_days : Int32) (o_former_n : Nat) (o_former_f : Nat → Int32) (o_later_n : Nat) (o_later_f : Nat → Int32) (o_charts_n : Nat) (o_charts_f : Nat → Int32) : Option (Int32 × Int32 × Int64 × Int64) :=
  (p_Mod_within a1 0 1).bind (fun (v1 : Int32) => (p_Mod_goes v1 1 1 o_thrown o_width o_height o_repeats o_wide o_floor o_across o_down o_sum o_many o_above o_below o_marked o_spots o_days).bind (fun ((v2, u2_0) : Int32 × Int32) => (if v2 = 0 then some (0, u2_0, o_above, o_below) else (p_Mod_weigh u2_0 o_width o_height o_repeats o_wide o_floor o_across o_down o_sum o_many o_above o_below o_marked o_spots o_days o_former_n o_former_f o_later_n o_later_f o_charts_n o_charts_f).bind (fun ((u3_0, u3_1) : Int64 × Int64) => (if a1 = 0 then some ((u3_0.toInt32), u2_0, u3_0, u3_1) else some ((u3_1.toInt32), u2_0, u3_0, u3_1))))))
set_option maxHeartbeats 4000000 in
set_option maxRecDepth 100000 in
theorem c_Mod_gain (l : Launch) (dC : Nat → ClassId) (dI : Nat → Nat → Nat) (cI cJ cZ : ClassId) (q_o q_o_former q_o_later q_o_charts q_o_lows q_o_highs q_o_firsts q_o_changes q_o_dates q_o_kept : Nat) (a1 : Int32) (o_thrown : Int32) (o_width : Int32) (o_height : Int32) (o_repeats : Int32) (o_wide : Int32) (o_floor : Int32) (o_across : Int32) (o_down : Int32) (o_sum : Int64) (o_many : Int64) (o_above : Int64) (o_below : Int64) (o_marked : Int32) (o_spots : Int32) (o_days : Int32) (o_former_n : Nat) (o_former_f : Nat → Int32) (o_later_n : Nat) (o_later_f : Nat → Int32) (o_charts_n : Nat) (o_charts_f : Nat → Int32) (r0 : Int32) (r1 : Int32) (r2 : Int64) (r3 : Int64) (h : p_Mod_gain a1 o_thrown o_width o_height o_repeats o_wide o_floor o_across o_down o_sum o_many o_above o_below o_marked o_spots o_days o_former_n o_former_f o_later_n o_later_f o_charts_n o_charts_f = some (r0, r1, r2, r3)) : ct l y_Mod_gain w_Mod_gain rm_Mod_gain (dC, dI) [(cI, .int), (cJ, .long), (cZ, .boolean)] [.ref q_o, .int a1] [(q_o, .inr (7, [.int o_thrown, .int o_width, .int o_height, .ref q_o_former, .ref q_o_later, .ref q_o_charts, .ref q_o_lows, .ref q_o_highs, .int o_repeats, .int o_wide, .int o_floor, .int o_across, .int o_down, .long o_sum, .long o_many, .long o_above, .long o_below, .ref q_o_firsts, .ref q_o_changes, .int o_marked, .int o_spots, .int o_days, .ref q_o_dates, .ref q_o_kept])), (q_o_former, .inl (cI, o_former_n, .inl o_former_f)), (q_o_later, .inl (cI, o_later_n, .inl o_later_f)), (q_o_charts, .inl (cZ, o_charts_n, .inl o_charts_f))] (fun w => w = [(q_o, .inr (7, [.int r1, .int o_width, .int o_height, .ref q_o_former, .ref q_o_later, .ref q_o_charts, .ref q_o_lows, .ref q_o_highs, .int o_repeats, .int o_wide, .int o_floor, .int o_across, .int o_down, .long o_sum, .long o_many, .long r2, .long r3, .ref q_o_firsts, .ref q_o_changes, .int o_marked, .int o_spots, .int o_days, .ref q_o_dates, .ref q_o_kept])), (q_o_former, .inl (cI, o_former_n, .inl o_former_f)), (q_o_later, .inl (cI, o_later_n, .inl o_later_f)), (q_o_charts, .inl (cZ, o_charts_n, .inl o_charts_f))]) (some (.int r0)) := by
  refine ct_of (cc := b_Mod_gain) (maxL := 2) (ret := (some .int)) (lv := [(0, .ref q_o), (1, .int a1)]) (by decide) rfl rfl rfl ?_
  intro p e s m args below meth c A Q H locs hx hb hml hown hts hin hA hK hN hP hD hS RT ls hl
  unfold p_Mod_gain at h
  refine lv_aload_n hx hb d_Mod_gain_0 rfl (lv_at hl 0 rfl) ?_
  refine lv_iload_n hx hb d_Mod_gain_1 rfl (lv_at hl 1 rfl) ?_
  refine lv_iconst (v := 0) hx hb d_Mod_gain_2 (by decide) ?_
  refine lv_iconst (v := 1) hx hb d_Mod_gain_3 (by decide) ?_
  obtain ⟨v1, hu1, h⟩ := pu_bd h
  refine cc_S (As := [.int a1, .int 0, .int 1]) (rest := [.ref q_o]) ⟨hx, hb, hml, hown, hts⟩ (c_Mod_within l dC dI cI cJ cZ a1 0 1 v1 hu1) (cwS 3 hts (gS k_694 k_695 k_9 k_696 rfl) rfl rfl rfl hdV_Mod_within ⟨Nat.le_of_ble_eq_true rfl, Nat.le_of_ble_eq_true rfl⟩) hK hN hP hD hS hA [] [0, 1, 2, 3] (w0 := []) (wr := [(q_o, .inr (7, [.int o_thrown, .int o_width, .int o_height, .ref q_o_former, .ref q_o_later, .ref q_o_charts, .ref q_o_lows, .ref q_o_highs, .int o_repeats, .int o_wide, .int o_floor, .int o_across, .int o_down, .long o_sum, .long o_many, .long o_above, .long o_below, .ref q_o_firsts, .ref q_o_changes, .int o_marked, .int o_spots, .int o_days, .ref q_o_dates, .ref q_o_kept])), (q_o_former, .inl (cI, o_former_n, .inl o_former_f)), (q_o_later, .inl (cI, o_later_n, .inl o_later_f)), (q_o_charts, .inl (cZ, o_charts_n, .inl o_charts_f))]) rfl rfl (by decide) (by decide) (by decide) rfl hl.1 rfl (Nat.le_of_ble_eq_true rfl) d_Mod_gain_4 ⟨Nat.le_of_ble_eq_true rfl, Nat.le_of_ble_eq_true rfl⟩ (fun w1 H locs hw1 hP hD hS => ?_)
  subst hw1
  have hP : va_P (dC, dI) vwCl [(q_o, .inr (7, [.int o_thrown, .int o_width, .int o_height, .ref q_o_former, .ref q_o_later, .ref q_o_charts, .ref q_o_lows, .ref q_o_highs, .int o_repeats, .int o_wide, .int o_floor, .int o_across, .int o_down, .long o_sum, .long o_many, .long o_above, .long o_below, .ref q_o_firsts, .ref q_o_changes, .int o_marked, .int o_spots, .int o_days, .ref q_o_dates, .ref q_o_kept])), (q_o_former, .inl (cI, o_former_n, .inl o_former_f)), (q_o_later, .inl (cI, o_later_n, .inl o_later_f)), (q_o_charts, .inl (cZ, o_charts_n, .inl o_charts_f))] H := hP
  have hD : va_D A [(q_o, .inr (7, [.int o_thrown, .int o_width, .int o_height, .ref q_o_former, .ref q_o_later, .ref q_o_charts, .ref q_o_lows, .ref q_o_highs, .int o_repeats, .int o_wide, .int o_floor, .int o_across, .int o_down, .long o_sum, .long o_many, .long o_above, .long o_below, .ref q_o_firsts, .ref q_o_changes, .int o_marked, .int o_spots, .int o_days, .ref q_o_dates, .ref q_o_kept])), (q_o_former, .inl (cI, o_former_n, .inl o_former_f)), (q_o_later, .inl (cI, o_later_n, .inl o_later_f)), (q_o_charts, .inl (cZ, o_charts_n, .inl o_charts_f))] := hD
  refine lv_iconst (v := 1) hx hb d_Mod_gain_7 (by decide) ?_
  refine lv_iconst (v := 1) hx hb d_Mod_gain_8 (by decide) ?_
  obtain ⟨⟨v2, u2_0⟩, hu2, h⟩ := pu_bd h
  try dsimp only at h
  refine cc_V (As := [.int v1, .int 1, .int 1]) (rest := []) ⟨hx, hb, hml, hown, hts⟩ (c_Mod_goes l dC dI cI cJ cZ q_o q_o_former q_o_later q_o_charts q_o_lows q_o_highs q_o_firsts q_o_changes q_o_dates q_o_kept v1 1 1 o_thrown o_width o_height o_repeats o_wide o_floor o_across o_down o_sum o_many o_above o_below o_marked o_spots o_days v2 u2_0 hu2) (cwV 3 hts (gV k_697 k_699 kp_16 k_9 k_700 rfl) rfl rfl rfl hdV_Mod_goes ⟨Nat.le_of_ble_eq_true rfl, Nat.le_of_ble_eq_true rfl⟩) hK hN hP hD hS hA [0] [1, 2, 3] (w0 := [(q_o, .inr (7, [.int o_thrown, .int o_width, .int o_height, .ref q_o_former, .ref q_o_later, .ref q_o_charts, .ref q_o_lows, .ref q_o_highs, .int o_repeats, .int o_wide, .int o_floor, .int o_across, .int o_down, .long o_sum, .long o_many, .long o_above, .long o_below, .ref q_o_firsts, .ref q_o_changes, .int o_marked, .int o_spots, .int o_days, .ref q_o_dates, .ref q_o_kept]))]) (wr := [(q_o_former, .inl (cI, o_former_n, .inl o_former_f)), (q_o_later, .inl (cI, o_later_n, .inl o_later_f)), (q_o_charts, .inl (cZ, o_charts_n, .inl o_charts_f))]) rfl rfl (by decide) (by decide) (by decide) 7 rfl rfl rfl hl.1 rfl (Nat.le_of_ble_eq_true rfl) d_Mod_gain_9 ⟨Nat.le_of_ble_eq_true rfl, Nat.le_of_ble_eq_true rfl⟩ (fun w1 H locs hw1 hP hD hS => ?_)
  subst hw1
  have hP : va_P (dC, dI) vwCl [(q_o_former, .inl (cI, o_former_n, .inl o_former_f)), (q_o_later, .inl (cI, o_later_n, .inl o_later_f)), (q_o_charts, .inl (cZ, o_charts_n, .inl o_charts_f)), (q_o, .inr (7, [.int u2_0, .int o_width, .int o_height, .ref q_o_former, .ref q_o_later, .ref q_o_charts, .ref q_o_lows, .ref q_o_highs, .int o_repeats, .int o_wide, .int o_floor, .int o_across, .int o_down, .long o_sum, .long o_many, .long o_above, .long o_below, .ref q_o_firsts, .ref q_o_changes, .int o_marked, .int o_spots, .int o_days, .ref q_o_dates, .ref q_o_kept]))] H := hP
  have hD : va_D A [(q_o_former, .inl (cI, o_former_n, .inl o_former_f)), (q_o_later, .inl (cI, o_later_n, .inl o_later_f)), (q_o_charts, .inl (cZ, o_charts_n, .inl o_charts_f)), (q_o, .inr (7, [.int u2_0, .int o_width, .int o_height, .ref q_o_former, .ref q_o_later, .ref q_o_charts, .ref q_o_lows, .ref q_o_highs, .int o_repeats, .int o_wide, .int o_floor, .int o_across, .int o_down, .long o_sum, .long o_many, .long o_above, .long o_below, .ref q_o_firsts, .ref q_o_changes, .int o_marked, .int o_spots, .int o_days, .ref q_o_dates, .ref q_o_kept]))] := hD
  refine lv_if_ne (tgt := 17) hx hb d_Mod_gain_12 (by decide) (fun hc => ?_) (fun hc => ?_)
  · have h := pu_f hc h
    refine lv_aload_n hx hb d_Mod_gain_17 rfl (lv_at hl 0 rfl) ?_
    obtain ⟨⟨u3_0, u3_1⟩, hu3, h⟩ := pu_bd h
    try dsimp only at h
    refine cc_V (As := []) (rest := []) ⟨hx, hb, hml, hown, hts⟩ (c_Mod_weigh l dC dI cI cJ cZ q_o q_o_former q_o_later q_o_charts q_o_lows q_o_highs q_o_firsts q_o_changes q_o_dates q_o_kept u2_0 o_width o_height o_repeats o_wide o_floor o_across o_down o_sum o_many o_above o_below o_marked o_spots o_days o_former_n o_former_f o_later_n o_later_f o_charts_n o_charts_f u3_0 u3_1 hu3) (cwV 0 hts (gV k_737 k_739 kp_21 k_9 k_740 rfl) rfl rfl rfl hdV_Mod_weigh ⟨Nat.le_of_ble_eq_true rfl, Nat.le_of_ble_eq_true rfl⟩) hK hN hP hD hS hA [3, 0, 1, 2] [] (w0 := [(q_o, .inr (7, [.int u2_0, .int o_width, .int o_height, .ref q_o_former, .ref q_o_later, .ref q_o_charts, .ref q_o_lows, .ref q_o_highs, .int o_repeats, .int o_wide, .int o_floor, .int o_across, .int o_down, .long o_sum, .long o_many, .long o_above, .long o_below, .ref q_o_firsts, .ref q_o_changes, .int o_marked, .int o_spots, .int o_days, .ref q_o_dates, .ref q_o_kept])), (q_o_former, .inl (cI, o_former_n, .inl o_former_f)), (q_o_later, .inl (cI, o_later_n, .inl o_later_f)), (q_o_charts, .inl (cZ, o_charts_n, .inl o_charts_f))]) (wr := []) rfl rfl (by decide) (by decide) (by decide) 7 rfl rfl rfl hl.1 rfl (Nat.le_of_ble_eq_true rfl) d_Mod_gain_18 ⟨Nat.le_of_ble_eq_true rfl, Nat.le_of_ble_eq_true rfl⟩ (fun w1 H locs hw1 hP hD hS => ?_)
    subst hw1
    have hP : va_P (dC, dI) vwCl [(q_o, .inr (7, [.int u2_0, .int o_width, .int o_height, .ref q_o_former, .ref q_o_later, .ref q_o_charts, .ref q_o_lows, .ref q_o_highs, .int o_repeats, .int o_wide, .int o_floor, .int o_across, .int o_down, .long o_sum, .long o_many, .long u3_0, .long u3_1, .ref q_o_firsts, .ref q_o_changes, .int o_marked, .int o_spots, .int o_days, .ref q_o_dates, .ref q_o_kept])), (q_o_former, .inl (cI, o_former_n, .inl o_former_f)), (q_o_later, .inl (cI, o_later_n, .inl o_later_f)), (q_o_charts, .inl (cZ, o_charts_n, .inl o_charts_f))] H := hP
    have hD : va_D A [(q_o, .inr (7, [.int u2_0, .int o_width, .int o_height, .ref q_o_former, .ref q_o_later, .ref q_o_charts, .ref q_o_lows, .ref q_o_highs, .int o_repeats, .int o_wide, .int o_floor, .int o_across, .int o_down, .long o_sum, .long o_many, .long u3_0, .long u3_1, .ref q_o_firsts, .ref q_o_changes, .int o_marked, .int o_spots, .int o_days, .ref q_o_dates, .ref q_o_kept])), (q_o_former, .inl (cI, o_former_n, .inl o_former_f)), (q_o_later, .inl (cI, o_later_n, .inl o_later_f)), (q_o_charts, .inl (cZ, o_charts_n, .inl o_charts_f))] := hD
    refine lv_iload_n hx hb d_Mod_gain_21 rfl (lv_at hl 1 rfl) ?_
    refine lv_if_ne (tgt := 32) hx hb d_Mod_gain_22 (by decide) (fun hc => ?_) (fun hc => ?_)
    · have h := pu_f hc h
      refine lv_aload_n hx hb d_Mod_gain_32 rfl (lv_at hl 0 rfl) ?_
      refine va_get (D := (dC, dI)) (ci := 7) (v := .long u3_1) (C := R_Mod) (T := F_Mod) (N := 24) hx hb hts i_Mod hown hK hP 0 rfl rfl 16 (by decide) (hts _ k_624) (fun _ h9 => h9) rfl d_Mod_gain_33 ?_
      refine lv_l2i hx hb d_Mod_gain_36 rfl ?_
      cases h
      refine W.widen (k := 0) (n := 0) (Nat.le_of_ble_eq_true rfl) (Nat.le_of_ble_eq_true rfl) ?_
      exact RT 37 ls H locs _ d_Mod_gain_37 (Or.inr (Or.inl ⟨rfl, _, rfl⟩)) rfl (hP.sub [0, 1, 2, 3] rfl) (hD.sub [0, 1, 2, 3] (by decide) rfl) hS
    · have h := pu_t hc h
      refine lv_aload_n hx hb d_Mod_gain_25 rfl (lv_at hl 0 rfl) ?_
      refine va_get (D := (dC, dI)) (ci := 7) (v := .long u3_0) (C := R_Mod) (T := F_Mod) (N := 24) hx hb hts i_Mod hown hK hP 0 rfl rfl 15 (by decide) (hts _ k_623) (fun _ h9 => h9) rfl d_Mod_gain_26 ?_
      refine lv_goto (tgt := 36) hx hb d_Mod_gain_29 (by decide) ?_
      refine lv_l2i hx hb d_Mod_gain_36 rfl ?_
      cases h
      refine W.widen (k := 0) (n := 0) (Nat.le_of_ble_eq_true rfl) (Nat.le_of_ble_eq_true rfl) ?_
      exact RT 37 ls H locs _ d_Mod_gain_37 (Or.inr (Or.inl ⟨rfl, _, rfl⟩)) rfl (hP.sub [0, 1, 2, 3] rfl) (hD.sub [0, 1, 2, 3] (by decide) rfl) hS
  · have h := pu_t hc h
    refine lv_iconst (v := 0) hx hb d_Mod_gain_15 (by decide) ?_
    cases h
    refine W.widen (k := 0) (n := 0) (Nat.le_of_ble_eq_true rfl) (Nat.le_of_ble_eq_true rfl) ?_
    exact RT 16 ls H locs _ d_Mod_gain_16 (Or.inr (Or.inl ⟨rfl, _, rfl⟩)) rfl (hP.sub [3, 0, 1, 2] rfl) (hD.sub [3, 0, 1, 2] (by decide) rfl) hS

noncomputable def p_Mod_boundOf (a1 : Int32) (o_thrown : Int32) (o_width : Int32) (o_height : Int32) (o_repeats : Int32) (o_wide : Int32) (o_floor : Int32) (o_across : Int32) (o_down : Int32) (o_sum : Int64) (o_many : Int64) (o_above : Int64) (o_below : Int64) (o_marked : Int32) (o_spots : Int32) (o_days : Int32) (o_former_n : Nat) (o_former_f : Nat → Int32) (o_lows_n : Nat) (o_lows_f : Nat → Int32) (o_highs_n : Nat) (o_highs_f : Nat → Int32) : Option (Int32) :=
  pu_gd (vp_in a1 o_lows_n) (((if (o_lows_f a1.toNatClampNeg) = 999 then some 0 else pu_gd (vp_in a1 o_lows_n) (pu_gd (vp_in a1 o_former_n) ((p_Mod_apart (o_lows_f a1.toNatClampNeg) (o_former_f a1.toNatClampNeg)).bind (fun (v2 : Int32) => some v2))))).bind (fun (j1_3 : Int32) => pu_gd (vp_in a1 o_highs_n) (((if (o_highs_f a1.toNatClampNeg) = (-1) then some 0 else pu_gd (vp_in a1 o_highs_n) (pu_gd (vp_in a1 o_former_n) ((p_Mod_apart (o_highs_f a1.toNatClampNeg) (o_former_f a1.toNatClampNeg)).bind (fun (v5 : Int32) => some v5))))).bind (fun (j4_6 : Int32) => (if j1_3 ≤ j4_6 then some (o_floor + j4_6) else some (o_floor + j1_3))))))
set_option maxHeartbeats 4000000 in
set_option maxRecDepth 100000 in
theorem c_Mod_boundOf (l : Launch) (dC : Nat → ClassId) (dI : Nat → Nat → Nat) (cI cJ cZ : ClassId) (q_o q_o_former q_o_later q_o_charts q_o_lows q_o_highs q_o_firsts q_o_changes q_o_dates q_o_kept : Nat) (a1 : Int32) (o_thrown : Int32) (o_width : Int32) (o_height : Int32) (o_repeats : Int32) (o_wide : Int32) (o_floor : Int32) (o_across : Int32) (o_down : Int32) (o_sum : Int64) (o_many : Int64) (o_above : Int64) (o_below : Int64) (o_marked : Int32) (o_spots : Int32) (o_days : Int32) (o_former_n : Nat) (o_former_f : Nat → Int32) (o_lows_n : Nat) (o_lows_f : Nat → Int32) (o_highs_n : Nat) (o_highs_f : Nat → Int32) (r0 : Int32) (h : p_Mod_boundOf a1 o_thrown o_width o_height o_repeats o_wide o_floor o_across o_down o_sum o_many o_above o_below o_marked o_spots o_days o_former_n o_former_f o_lows_n o_lows_f o_highs_n o_highs_f = some r0) : ct l y_Mod_boundOf w_Mod_boundOf rm_Mod_boundOf (dC, dI) [(cI, .int), (cJ, .long), (cZ, .boolean)] [.ref q_o, .int a1] [(q_o, .inr (7, [.int o_thrown, .int o_width, .int o_height, .ref q_o_former, .ref q_o_later, .ref q_o_charts, .ref q_o_lows, .ref q_o_highs, .int o_repeats, .int o_wide, .int o_floor, .int o_across, .int o_down, .long o_sum, .long o_many, .long o_above, .long o_below, .ref q_o_firsts, .ref q_o_changes, .int o_marked, .int o_spots, .int o_days, .ref q_o_dates, .ref q_o_kept])), (q_o_former, .inl (cI, o_former_n, .inl o_former_f)), (q_o_lows, .inl (cI, o_lows_n, .inl o_lows_f)), (q_o_highs, .inl (cI, o_highs_n, .inl o_highs_f))] (fun w => w = [(q_o, .inr (7, [.int o_thrown, .int o_width, .int o_height, .ref q_o_former, .ref q_o_later, .ref q_o_charts, .ref q_o_lows, .ref q_o_highs, .int o_repeats, .int o_wide, .int o_floor, .int o_across, .int o_down, .long o_sum, .long o_many, .long o_above, .long o_below, .ref q_o_firsts, .ref q_o_changes, .int o_marked, .int o_spots, .int o_days, .ref q_o_dates, .ref q_o_kept])), (q_o_former, .inl (cI, o_former_n, .inl o_former_f)), (q_o_lows, .inl (cI, o_lows_n, .inl o_lows_f)), (q_o_highs, .inl (cI, o_highs_n, .inl o_highs_f))]) (some (.int r0)) := by
  refine ct_of (cc := b_Mod_boundOf) (maxL := 4) (ret := (some .int)) (lv := [(0, .ref q_o), (1, .int a1)]) (by decide) rfl rfl rfl ?_
  intro p e s m args below meth c A Q H locs hx hb hml hown hts hin hA hK hN hP hD hS RT ls hl
  unfold p_Mod_boundOf at h
  refine lv_aload_n hx hb d_Mod_boundOf_0 rfl (lv_at hl 0 rfl) ?_
  refine va_get (D := (dC, dI)) (ci := 7) (v := .ref q_o_lows) (C := R_Mod) (T := F_Mod) (N := 24) hx hb hts i_Mod hown hK hP 0 rfl rfl 6 (by decide) (hts _ k_614) (fun _ h9 => h9) rfl d_Mod_boundOf_1 ?_
  refine lv_iload_n hx hb d_Mod_boundOf_4 rfl (lv_at hl 1 rfl) ?_
  obtain ⟨hg, h⟩ := pu_g h
  refine va_iald hx hb hK hP 2 0 rfl rfl hg d_Mod_boundOf_5 ?_
  refine lv_sipush (v := 999) hx hb d_Mod_boundOf_6 (by decide) ?_
  obtain ⟨j_1, hj_1, hx_1⟩ := pu_bd h
  have J_1 : ∀ (j1_3 : Int32) (H : Heap) (locs : List Loc) (ls : Array Slot), j_1 = j1_3 → lv_has ls 4 [(0, .ref q_o), (1, .int a1)] → va_P (dC, dI) vwCl [(q_o, .inr (7, [.int o_thrown, .int o_width, .int o_height, .ref q_o_former, .ref q_o_later, .ref q_o_charts, .ref q_o_lows, .ref q_o_highs, .int o_repeats, .int o_wide, .int o_floor, .int o_across, .int o_down, .long o_sum, .long o_many, .long o_above, .long o_below, .ref q_o_firsts, .ref q_o_changes, .int o_marked, .int o_spots, .int o_days, .ref q_o_dates, .ref q_o_kept])), (q_o_former, .inl (cI, o_former_n, .inl o_former_f)), (q_o_lows, .inl (cI, o_lows_n, .inl o_lows_f)), (q_o_highs, .inl (cI, o_highs_n, .inl o_highs_f))] H → va_D A [(q_o, .inr (7, [.int o_thrown, .int o_width, .int o_height, .ref q_o_former, .ref q_o_later, .ref q_o_charts, .ref q_o_lows, .ref q_o_highs, .int o_repeats, .int o_wide, .int o_floor, .int o_across, .int o_down, .long o_sum, .long o_many, .long o_above, .long o_below, .ref q_o_firsts, .ref q_o_changes, .int o_marked, .int o_spots, .int o_days, .ref q_o_dates, .ref q_o_kept])), (q_o_former, .inl (cI, o_former_n, .inl o_former_f)), (q_o_lows, .inl (cI, o_lows_n, .inl o_lows_f)), (q_o_highs, .inl (cI, o_highs_n, .inl o_highs_f))] → va_S A s.heap H locs → W p l e rm_Mod_boundOf s m args below meth c H locs 0 0 Q (F0 m 31 ls [.int j1_3]) := by
    intro j1_3 H locs ls he hl hP hD hS
    have h := hx_1
    rw [he] at h
    try dsimp only at h
    refine lv_istore_n (lv' := [(2, .int j1_3), (0, .ref q_o), (1, .int a1)]) hx hb d_Mod_boundOf_31 rfl hl (by decide) rfl (fun ls hl => ?_)
    refine lv_aload_n hx hb d_Mod_boundOf_32 rfl (lv_at hl 1 rfl) ?_
    refine va_get (D := (dC, dI)) (ci := 7) (v := .ref q_o_highs) (C := R_Mod) (T := F_Mod) (N := 24) hx hb hts i_Mod hown hK hP 0 rfl rfl 7 (by decide) (hts _ k_615) (fun _ h9 => h9) rfl d_Mod_boundOf_33 ?_
    refine lv_iload_n hx hb d_Mod_boundOf_36 rfl (lv_at hl 2 rfl) ?_
    obtain ⟨hg, h⟩ := pu_g h
    refine va_iald hx hb hK hP 3 0 rfl rfl hg d_Mod_boundOf_37 ?_
    refine lv_iconst (v := (-1)) hx hb d_Mod_boundOf_38 (by decide) ?_
    obtain ⟨j_4, hj_4, hx_4⟩ := pu_bd h
    have J_4 : ∀ (j4_6 : Int32) (H : Heap) (locs : List Loc) (ls : Array Slot), j_4 = j4_6 → lv_has ls 4 [(2, .int j1_3), (0, .ref q_o), (1, .int a1)] → va_P (dC, dI) vwCl [(q_o, .inr (7, [.int o_thrown, .int o_width, .int o_height, .ref q_o_former, .ref q_o_later, .ref q_o_charts, .ref q_o_lows, .ref q_o_highs, .int o_repeats, .int o_wide, .int o_floor, .int o_across, .int o_down, .long o_sum, .long o_many, .long o_above, .long o_below, .ref q_o_firsts, .ref q_o_changes, .int o_marked, .int o_spots, .int o_days, .ref q_o_dates, .ref q_o_kept])), (q_o_former, .inl (cI, o_former_n, .inl o_former_f)), (q_o_lows, .inl (cI, o_lows_n, .inl o_lows_f)), (q_o_highs, .inl (cI, o_highs_n, .inl o_highs_f))] H → va_D A [(q_o, .inr (7, [.int o_thrown, .int o_width, .int o_height, .ref q_o_former, .ref q_o_later, .ref q_o_charts, .ref q_o_lows, .ref q_o_highs, .int o_repeats, .int o_wide, .int o_floor, .int o_across, .int o_down, .long o_sum, .long o_many, .long o_above, .long o_below, .ref q_o_firsts, .ref q_o_changes, .int o_marked, .int o_spots, .int o_days, .ref q_o_dates, .ref q_o_kept])), (q_o_former, .inl (cI, o_former_n, .inl o_former_f)), (q_o_lows, .inl (cI, o_lows_n, .inl o_lows_f)), (q_o_highs, .inl (cI, o_highs_n, .inl o_highs_f))] → va_S A s.heap H locs → W p l e rm_Mod_boundOf s m args below meth c H locs 0 0 Q (F0 m 61 ls [.int j4_6]) := by
      intro j4_6 H locs ls he hl hP hD hS
      have h := hx_4
      rw [he] at h
      try dsimp only at h
      refine lv_istore_n (lv' := [(3, .int j4_6), (2, .int j1_3), (0, .ref q_o), (1, .int a1)]) hx hb d_Mod_boundOf_61 rfl hl (by decide) rfl (fun ls hl => ?_)
      refine lv_aload_n hx hb d_Mod_boundOf_62 rfl (lv_at hl 2 rfl) ?_
      refine va_get (D := (dC, dI)) (ci := 7) (v := .int o_floor) (C := R_Mod) (T := F_Mod) (N := 24) hx hb hts i_Mod hown hK hP 0 rfl rfl 10 (by decide) (hts _ k_618) (fun _ h9 => h9) rfl d_Mod_boundOf_63 ?_
      refine lv_iload_n hx hb d_Mod_boundOf_66 rfl (lv_at hl 1 rfl) ?_
      refine lv_iload_n hx hb d_Mod_boundOf_67 rfl (lv_at hl 0 rfl) ?_
      refine lv_icmp_le (tgt := 75) hx hb d_Mod_boundOf_68 (by decide) (fun hc => ?_) (fun hc => ?_)
      · have h := pu_t hc h
        refine lv_iload_n hx hb d_Mod_boundOf_75 rfl (lv_at hl 0 rfl) ?_
        refine lv_iadd hx hb d_Mod_boundOf_76 ?_
        cases h
        refine W.widen (k := 0) (n := 0) (Nat.le_of_ble_eq_true rfl) (Nat.le_of_ble_eq_true rfl) ?_
        exact RT 77 ls H locs _ d_Mod_boundOf_77 (Or.inr (Or.inl ⟨rfl, _, rfl⟩)) rfl (hP.sub [0, 1, 2, 3] rfl) (hD.sub [0, 1, 2, 3] (by decide) rfl) hS
      · have h := pu_f hc h
        refine lv_iload_n hx hb d_Mod_boundOf_71 rfl (lv_at hl 1 rfl) ?_
        refine lv_goto (tgt := 76) hx hb d_Mod_boundOf_72 (by decide) ?_
        refine lv_iadd hx hb d_Mod_boundOf_76 ?_
        cases h
        refine W.widen (k := 0) (n := 0) (Nat.le_of_ble_eq_true rfl) (Nat.le_of_ble_eq_true rfl) ?_
        exact RT 77 ls H locs _ d_Mod_boundOf_77 (Or.inr (Or.inl ⟨rfl, _, rfl⟩)) rfl (hP.sub [0, 1, 2, 3] rfl) (hD.sub [0, 1, 2, 3] (by decide) rfl) hS
    have h := hj_4
    refine lv_icmp_ne (tgt := 46) hx hb d_Mod_boundOf_39 (by decide) (fun hc => ?_) (fun hc => ?_)
    · have h := pu_f hc h
      refine lv_aload_n hx hb d_Mod_boundOf_46 rfl (lv_at hl 1 rfl) ?_
      refine va_get (D := (dC, dI)) (ci := 7) (v := .ref q_o_highs) (C := R_Mod) (T := F_Mod) (N := 24) hx hb hts i_Mod hown hK hP 0 rfl rfl 7 (by decide) (hts _ k_615) (fun _ h9 => h9) rfl d_Mod_boundOf_47 ?_
      refine lv_iload_n hx hb d_Mod_boundOf_50 rfl (lv_at hl 2 rfl) ?_
      obtain ⟨hg, h⟩ := pu_g h
      refine va_iald hx hb hK hP 3 0 rfl rfl hg d_Mod_boundOf_51 ?_
      refine lv_aload_n hx hb d_Mod_boundOf_52 rfl (lv_at hl 1 rfl) ?_
      refine va_get (D := (dC, dI)) (ci := 7) (v := .ref q_o_former) (C := R_Mod) (T := F_Mod) (N := 24) hx hb hts i_Mod hown hK hP 0 rfl rfl 3 (by decide) (hts _ k_611) (fun _ h9 => h9) rfl d_Mod_boundOf_53 ?_
      refine lv_iload_n hx hb d_Mod_boundOf_56 rfl (lv_at hl 2 rfl) ?_
      obtain ⟨hg, h⟩ := pu_g h
      refine va_iald hx hb hK hP 1 0 rfl rfl hg d_Mod_boundOf_57 ?_
      obtain ⟨v5, hu5, h⟩ := pu_bd h
      refine cc_S (As := [.int (o_highs_f a1.toNatClampNeg), .int (o_former_f a1.toNatClampNeg)]) (rest := []) ⟨hx, hb, hml, hown, hts⟩ (c_Mod_apart l dC dI cI cJ cZ (o_highs_f a1.toNatClampNeg) (o_former_f a1.toNatClampNeg) v5 hu5) (cwS 2 hts (gS k_718 k_719 k_9 k_720 rfl) rfl rfl rfl hdV_Mod_apart ⟨Nat.le_of_ble_eq_true rfl, Nat.le_of_ble_eq_true rfl⟩) hK hN hP hD hS hA [] [0, 1, 2, 3] (w0 := []) (wr := [(q_o, .inr (7, [.int o_thrown, .int o_width, .int o_height, .ref q_o_former, .ref q_o_later, .ref q_o_charts, .ref q_o_lows, .ref q_o_highs, .int o_repeats, .int o_wide, .int o_floor, .int o_across, .int o_down, .long o_sum, .long o_many, .long o_above, .long o_below, .ref q_o_firsts, .ref q_o_changes, .int o_marked, .int o_spots, .int o_days, .ref q_o_dates, .ref q_o_kept])), (q_o_former, .inl (cI, o_former_n, .inl o_former_f)), (q_o_lows, .inl (cI, o_lows_n, .inl o_lows_f)), (q_o_highs, .inl (cI, o_highs_n, .inl o_highs_f))]) rfl rfl (by decide) (by decide) (by decide) rfl hl.1 rfl (Nat.le_of_ble_eq_true rfl) d_Mod_boundOf_58 ⟨Nat.le_of_ble_eq_true rfl, Nat.le_of_ble_eq_true rfl⟩ (fun w1 H locs hw1 hP hD hS => ?_)
      subst hw1
      have hP : va_P (dC, dI) vwCl [(q_o, .inr (7, [.int o_thrown, .int o_width, .int o_height, .ref q_o_former, .ref q_o_later, .ref q_o_charts, .ref q_o_lows, .ref q_o_highs, .int o_repeats, .int o_wide, .int o_floor, .int o_across, .int o_down, .long o_sum, .long o_many, .long o_above, .long o_below, .ref q_o_firsts, .ref q_o_changes, .int o_marked, .int o_spots, .int o_days, .ref q_o_dates, .ref q_o_kept])), (q_o_former, .inl (cI, o_former_n, .inl o_former_f)), (q_o_lows, .inl (cI, o_lows_n, .inl o_lows_f)), (q_o_highs, .inl (cI, o_highs_n, .inl o_highs_f))] H := hP
      have hD : va_D A [(q_o, .inr (7, [.int o_thrown, .int o_width, .int o_height, .ref q_o_former, .ref q_o_later, .ref q_o_charts, .ref q_o_lows, .ref q_o_highs, .int o_repeats, .int o_wide, .int o_floor, .int o_across, .int o_down, .long o_sum, .long o_many, .long o_above, .long o_below, .ref q_o_firsts, .ref q_o_changes, .int o_marked, .int o_spots, .int o_days, .ref q_o_dates, .ref q_o_kept])), (q_o_former, .inl (cI, o_former_n, .inl o_former_f)), (q_o_lows, .inl (cI, o_lows_n, .inl o_lows_f)), (q_o_highs, .inl (cI, o_highs_n, .inl o_highs_f))] := hD
      exact J_4 v5 H locs ls (Option.some.inj h).symm (lv_sub hl [0, 1, 2] rfl) (hP.sub [0, 1, 2, 3] rfl) (hD.sub [0, 1, 2, 3] (by decide) rfl) hS
    · have h := pu_t hc h
      refine lv_iconst (v := 0) hx hb d_Mod_boundOf_42 (by decide) ?_
      refine lv_goto (tgt := 61) hx hb d_Mod_boundOf_43 (by decide) ?_
      exact J_4 0 H locs ls (Option.some.inj h).symm (lv_sub hl [0, 1, 2] rfl) (hP.sub [0, 1, 2, 3] rfl) (hD.sub [0, 1, 2, 3] (by decide) rfl) hS
  have h := hj_1
  refine lv_icmp_ne (tgt := 16) hx hb d_Mod_boundOf_9 (by decide) (fun hc => ?_) (fun hc => ?_)
  · have h := pu_f hc h
    refine lv_aload_n hx hb d_Mod_boundOf_16 rfl (lv_at hl 0 rfl) ?_
    refine va_get (D := (dC, dI)) (ci := 7) (v := .ref q_o_lows) (C := R_Mod) (T := F_Mod) (N := 24) hx hb hts i_Mod hown hK hP 0 rfl rfl 6 (by decide) (hts _ k_614) (fun _ h9 => h9) rfl d_Mod_boundOf_17 ?_
    refine lv_iload_n hx hb d_Mod_boundOf_20 rfl (lv_at hl 1 rfl) ?_
    obtain ⟨hg, h⟩ := pu_g h
    refine va_iald hx hb hK hP 2 0 rfl rfl hg d_Mod_boundOf_21 ?_
    refine lv_aload_n hx hb d_Mod_boundOf_22 rfl (lv_at hl 0 rfl) ?_
    refine va_get (D := (dC, dI)) (ci := 7) (v := .ref q_o_former) (C := R_Mod) (T := F_Mod) (N := 24) hx hb hts i_Mod hown hK hP 0 rfl rfl 3 (by decide) (hts _ k_611) (fun _ h9 => h9) rfl d_Mod_boundOf_23 ?_
    refine lv_iload_n hx hb d_Mod_boundOf_26 rfl (lv_at hl 1 rfl) ?_
    obtain ⟨hg, h⟩ := pu_g h
    refine va_iald hx hb hK hP 1 0 rfl rfl hg d_Mod_boundOf_27 ?_
    obtain ⟨v2, hu2, h⟩ := pu_bd h
    refine cc_S (As := [.int (o_lows_f a1.toNatClampNeg), .int (o_former_f a1.toNatClampNeg)]) (rest := []) ⟨hx, hb, hml, hown, hts⟩ (c_Mod_apart l dC dI cI cJ cZ (o_lows_f a1.toNatClampNeg) (o_former_f a1.toNatClampNeg) v2 hu2) (cwS 2 hts (gS k_718 k_719 k_9 k_720 rfl) rfl rfl rfl hdV_Mod_apart ⟨Nat.le_of_ble_eq_true rfl, Nat.le_of_ble_eq_true rfl⟩) hK hN hP hD hS hA [] [0, 1, 2, 3] (w0 := []) (wr := [(q_o, .inr (7, [.int o_thrown, .int o_width, .int o_height, .ref q_o_former, .ref q_o_later, .ref q_o_charts, .ref q_o_lows, .ref q_o_highs, .int o_repeats, .int o_wide, .int o_floor, .int o_across, .int o_down, .long o_sum, .long o_many, .long o_above, .long o_below, .ref q_o_firsts, .ref q_o_changes, .int o_marked, .int o_spots, .int o_days, .ref q_o_dates, .ref q_o_kept])), (q_o_former, .inl (cI, o_former_n, .inl o_former_f)), (q_o_lows, .inl (cI, o_lows_n, .inl o_lows_f)), (q_o_highs, .inl (cI, o_highs_n, .inl o_highs_f))]) rfl rfl (by decide) (by decide) (by decide) rfl hl.1 rfl (Nat.le_of_ble_eq_true rfl) d_Mod_boundOf_28 ⟨Nat.le_of_ble_eq_true rfl, Nat.le_of_ble_eq_true rfl⟩ (fun w1 H locs hw1 hP hD hS => ?_)
    subst hw1
    have hP : va_P (dC, dI) vwCl [(q_o, .inr (7, [.int o_thrown, .int o_width, .int o_height, .ref q_o_former, .ref q_o_later, .ref q_o_charts, .ref q_o_lows, .ref q_o_highs, .int o_repeats, .int o_wide, .int o_floor, .int o_across, .int o_down, .long o_sum, .long o_many, .long o_above, .long o_below, .ref q_o_firsts, .ref q_o_changes, .int o_marked, .int o_spots, .int o_days, .ref q_o_dates, .ref q_o_kept])), (q_o_former, .inl (cI, o_former_n, .inl o_former_f)), (q_o_lows, .inl (cI, o_lows_n, .inl o_lows_f)), (q_o_highs, .inl (cI, o_highs_n, .inl o_highs_f))] H := hP
    have hD : va_D A [(q_o, .inr (7, [.int o_thrown, .int o_width, .int o_height, .ref q_o_former, .ref q_o_later, .ref q_o_charts, .ref q_o_lows, .ref q_o_highs, .int o_repeats, .int o_wide, .int o_floor, .int o_across, .int o_down, .long o_sum, .long o_many, .long o_above, .long o_below, .ref q_o_firsts, .ref q_o_changes, .int o_marked, .int o_spots, .int o_days, .ref q_o_dates, .ref q_o_kept])), (q_o_former, .inl (cI, o_former_n, .inl o_former_f)), (q_o_lows, .inl (cI, o_lows_n, .inl o_lows_f)), (q_o_highs, .inl (cI, o_highs_n, .inl o_highs_f))] := hD
    exact J_1 v2 H locs ls (Option.some.inj h).symm (lv_sub hl [0, 1] rfl) (hP.sub [0, 1, 2, 3] rfl) (hD.sub [0, 1, 2, 3] (by decide) rfl) hS
  · have h := pu_t hc h
    refine lv_iconst (v := 0) hx hb d_Mod_boundOf_12 (by decide) ?_
    refine lv_goto (tgt := 31) hx hb d_Mod_boundOf_13 (by decide) ?_
    exact J_1 0 H locs ls (Option.some.inj h).symm (lv_sub hl [0, 1] rfl) (hP.sub [0, 1, 2, 3] rfl) (hD.sub [0, 1, 2, 3] (by decide) rfl) hS

noncomputable def p_Mod_repeat (a1 : Int32) (a2 : Int32) (a3 : Int32) (o_thrown : Int32) (o_width : Int32) (o_height : Int32) (o_repeats : Int32) (o_wide : Int32) (o_floor : Int32) (o_across : Int32) (o_down : Int32) (o_sum : Int64) (o_many : Int64) (o_above : Int64) (o_below : Int64) (o_marked : Int32) (o_spots : Int32) (o_days : Int32) (o_former_n : Nat) (o_former_f : Nat → Int32) (o_lows_n : Nat) (o_lows_f : Nat → Int32) (o_highs_n : Nat) (o_highs_f : Nat → Int32) : Option (Int32 × Int32 × Int32 × Int32 × (Nat → Int32) × (Nat → Int32)) :=
  (p_Mod_isCell a1 a2 o_thrown o_width o_height o_repeats o_wide o_floor o_across o_down o_sum o_many o_above o_below o_marked o_spots o_days).bind (fun (v1 : Int32) => (p_Mod_within a3 0 255).bind (fun (v2 : Int32) => (p_Mod_goes v1 v2 1 o_thrown o_width o_height o_repeats o_wide o_floor o_across o_down o_sum o_many o_above o_below o_marked o_spots o_days).bind (fun ((v3, u3_0) : Int32 × Int32) => (if v3 = 0 then some (0, u3_0, o_repeats, o_wide, o_lows_f, o_highs_f) else pu_gd (vp_in ((24 * a2) + a1) o_lows_n) (((if (o_lows_f ((24 * a2) + a1).toNatClampNeg) ≤ a3 then pu_gd (vp_in ((24 * a2) + a1) o_lows_n) (some (o_lows_f ((24 * a2) + a1).toNatClampNeg)) else some a3)).bind (fun (j4_5 : Int32) => pu_gd (vp_in ((24 * a2) + a1) o_lows_n) (pu_gd (vp_in ((24 * a2) + a1) o_highs_n) (((if a3 ≤ (o_highs_f ((24 * a2) + a1).toNatClampNeg) then pu_gd (vp_in ((24 * a2) + a1) o_highs_n) (some (o_highs_f ((24 * a2) + a1).toNatClampNeg)) else some a3)).bind (fun (j6_7 : Int32) => pu_gd (vp_in ((24 * a2) + a1) o_highs_n) (pu_gd (vp_in ((24 * a2) + a1) o_former_n) ((p_Mod_apart a3 (o_former_f ((24 * a2) + a1).toNatClampNeg)).bind (fun (v8 : Int32) => (if v8 ≤ o_floor then (p_Mod_boundOf ((24 * a2) + a1) u3_0 o_width o_height (o_repeats + 1) o_wide o_floor o_across o_down o_sum o_many o_above o_below o_marked o_spots o_days o_former_n o_former_f o_lows_n (upd o_lows_f ((24 * a2) + a1).toNatClampNeg j4_5) o_highs_n (upd o_highs_f ((24 * a2) + a1).toNatClampNeg j6_7)).bind (fun (v9 : Int32) => some (v9, u3_0, (o_repeats + 1), o_wide, (upd o_lows_f ((24 * a2) + a1).toNatClampNeg j4_5), (upd o_highs_f ((24 * a2) + a1).toNatClampNeg j6_7))) else (p_Mod_boundOf ((24 * a2) + a1) u3_0 o_width o_height (o_repeats + 1) (o_wide + 1) o_floor o_across o_down o_sum o_many o_above o_below o_marked o_spots o_days o_former_n o_former_f o_lows_n (upd o_lows_f ((24 * a2) + a1).toNatClampNeg j4_5) o_highs_n (upd o_highs_f ((24 * a2) + a1).toNatClampNeg j6_7)).bind (fun (v10 : Int32) => some (v10, u3_0, (o_repeats + 1), (o_wide + 1), (upd o_lows_f ((24 * a2) + a1).toNatClampNeg j4_5), (upd o_highs_f ((24 * a2) + a1).toNatClampNeg j6_7))))))))))))))))
set_option maxHeartbeats 4000000 in
set_option maxRecDepth 100000 in
theorem c_Mod_repeat (l : Launch) (dC : Nat → ClassId) (dI : Nat → Nat → Nat) (cI cJ cZ : ClassId) (q_o q_o_former q_o_later q_o_charts q_o_lows q_o_highs q_o_firsts q_o_changes q_o_dates q_o_kept : Nat) (a1 : Int32) (a2 : Int32) (a3 : Int32) (o_thrown : Int32) (o_width : Int32) (o_height : Int32) (o_repeats : Int32) (o_wide : Int32) (o_floor : Int32) (o_across : Int32) (o_down : Int32) (o_sum : Int64) (o_many : Int64) (o_above : Int64) (o_below : Int64) (o_marked : Int32) (o_spots : Int32) (o_days : Int32) (o_former_n : Nat) (o_former_f : Nat → Int32) (o_lows_n : Nat) (o_lows_f : Nat → Int32) (o_highs_n : Nat) (o_highs_f : Nat → Int32) (r0 : Int32) (r1 : Int32) (r2 : Int32) (r3 : Int32) (r4 : Nat → Int32) (r5 : Nat → Int32) (h : p_Mod_repeat a1 a2 a3 o_thrown o_width o_height o_repeats o_wide o_floor o_across o_down o_sum o_many o_above o_below o_marked o_spots o_days o_former_n o_former_f o_lows_n o_lows_f o_highs_n o_highs_f = some (r0, r1, r2, r3, r4, r5)) : ct l y_Mod_repeat w_Mod_repeat rm_Mod_repeat (dC, dI) [(cI, .int), (cJ, .long), (cZ, .boolean)] [.ref q_o, .int a1, .int a2, .int a3] [(q_o, .inr (7, [.int o_thrown, .int o_width, .int o_height, .ref q_o_former, .ref q_o_later, .ref q_o_charts, .ref q_o_lows, .ref q_o_highs, .int o_repeats, .int o_wide, .int o_floor, .int o_across, .int o_down, .long o_sum, .long o_many, .long o_above, .long o_below, .ref q_o_firsts, .ref q_o_changes, .int o_marked, .int o_spots, .int o_days, .ref q_o_dates, .ref q_o_kept])), (q_o_former, .inl (cI, o_former_n, .inl o_former_f)), (q_o_lows, .inl (cI, o_lows_n, .inl o_lows_f)), (q_o_highs, .inl (cI, o_highs_n, .inl o_highs_f))] (fun w => w = [(q_o, .inr (7, [.int r1, .int o_width, .int o_height, .ref q_o_former, .ref q_o_later, .ref q_o_charts, .ref q_o_lows, .ref q_o_highs, .int r2, .int r3, .int o_floor, .int o_across, .int o_down, .long o_sum, .long o_many, .long o_above, .long o_below, .ref q_o_firsts, .ref q_o_changes, .int o_marked, .int o_spots, .int o_days, .ref q_o_dates, .ref q_o_kept])), (q_o_former, .inl (cI, o_former_n, .inl o_former_f)), (q_o_lows, .inl (cI, o_lows_n, .inl r4)), (q_o_highs, .inl (cI, o_highs_n, .inl r5))]) (some (.int r0)) := by
  refine ct_of (cc := b_Mod_repeat) (maxL := 5) (ret := (some .int)) (lv := [(0, .ref q_o), (1, .int a1), (2, .int a2), (3, .int a3)]) (by decide) rfl rfl rfl ?_
  intro p e s m args below meth c A Q H locs hx hb hml hown hts hin hA hK hN hP hD hS RT ls hl
  unfold p_Mod_repeat at h
  refine lv_aload_n hx hb d_Mod_repeat_0 rfl (lv_at hl 0 rfl) ?_
  refine lv_aload_n hx hb d_Mod_repeat_1 rfl (lv_at hl 0 rfl) ?_
  refine lv_iload_n hx hb d_Mod_repeat_2 rfl (lv_at hl 1 rfl) ?_
  refine lv_iload_n hx hb d_Mod_repeat_3 rfl (lv_at hl 2 rfl) ?_
  obtain ⟨v1, hu1, h⟩ := pu_bd h
  refine cc_V (As := [.int a1, .int a2]) (rest := [.ref q_o]) ⟨hx, hb, hml, hown, hts⟩ (c_Mod_isCell l dC dI cI cJ cZ q_o q_o_former q_o_later q_o_charts q_o_lows q_o_highs q_o_firsts q_o_changes q_o_dates q_o_kept a1 a2 o_thrown o_width o_height o_repeats o_wide o_floor o_across o_down o_sum o_many o_above o_below o_marked o_spots o_days v1 hu1) (cwV 2 hts (gV k_690 k_692 kp_15 k_9 k_693 rfl) rfl rfl rfl hdV_Mod_isCell ⟨Nat.le_of_ble_eq_true rfl, Nat.le_of_ble_eq_true rfl⟩) hK hN hP hD hS hA [0] [1, 2, 3] (w0 := [(q_o, .inr (7, [.int o_thrown, .int o_width, .int o_height, .ref q_o_former, .ref q_o_later, .ref q_o_charts, .ref q_o_lows, .ref q_o_highs, .int o_repeats, .int o_wide, .int o_floor, .int o_across, .int o_down, .long o_sum, .long o_many, .long o_above, .long o_below, .ref q_o_firsts, .ref q_o_changes, .int o_marked, .int o_spots, .int o_days, .ref q_o_dates, .ref q_o_kept]))]) (wr := [(q_o_former, .inl (cI, o_former_n, .inl o_former_f)), (q_o_lows, .inl (cI, o_lows_n, .inl o_lows_f)), (q_o_highs, .inl (cI, o_highs_n, .inl o_highs_f))]) rfl rfl (by decide) (by decide) (by decide) 7 rfl rfl rfl hl.1 rfl (Nat.le_of_ble_eq_true rfl) d_Mod_repeat_4 ⟨Nat.le_of_ble_eq_true rfl, Nat.le_of_ble_eq_true rfl⟩ (fun w1 H locs hw1 hP hD hS => ?_)
  subst hw1
  have hP : va_P (dC, dI) vwCl [(q_o_former, .inl (cI, o_former_n, .inl o_former_f)), (q_o_lows, .inl (cI, o_lows_n, .inl o_lows_f)), (q_o_highs, .inl (cI, o_highs_n, .inl o_highs_f)), (q_o, .inr (7, [.int o_thrown, .int o_width, .int o_height, .ref q_o_former, .ref q_o_later, .ref q_o_charts, .ref q_o_lows, .ref q_o_highs, .int o_repeats, .int o_wide, .int o_floor, .int o_across, .int o_down, .long o_sum, .long o_many, .long o_above, .long o_below, .ref q_o_firsts, .ref q_o_changes, .int o_marked, .int o_spots, .int o_days, .ref q_o_dates, .ref q_o_kept]))] H := hP
  have hD : va_D A [(q_o_former, .inl (cI, o_former_n, .inl o_former_f)), (q_o_lows, .inl (cI, o_lows_n, .inl o_lows_f)), (q_o_highs, .inl (cI, o_highs_n, .inl o_highs_f)), (q_o, .inr (7, [.int o_thrown, .int o_width, .int o_height, .ref q_o_former, .ref q_o_later, .ref q_o_charts, .ref q_o_lows, .ref q_o_highs, .int o_repeats, .int o_wide, .int o_floor, .int o_across, .int o_down, .long o_sum, .long o_many, .long o_above, .long o_below, .ref q_o_firsts, .ref q_o_changes, .int o_marked, .int o_spots, .int o_days, .ref q_o_dates, .ref q_o_kept]))] := hD
  refine lv_iload_n hx hb d_Mod_repeat_7 rfl (lv_at hl 3 rfl) ?_
  refine lv_iconst (v := 0) hx hb d_Mod_repeat_8 (by decide) ?_
  refine lv_sipush (v := 255) hx hb d_Mod_repeat_9 (by decide) ?_
  obtain ⟨v2, hu2, h⟩ := pu_bd h
  refine cc_S (As := [.int a3, .int 0, .int 255]) (rest := [.int v1, .ref q_o]) ⟨hx, hb, hml, hown, hts⟩ (c_Mod_within l dC dI cI cJ cZ a3 0 255 v2 hu2) (cwS 3 hts (gS k_694 k_695 k_9 k_696 rfl) rfl rfl rfl hdV_Mod_within ⟨Nat.le_of_ble_eq_true rfl, Nat.le_of_ble_eq_true rfl⟩) hK hN hP hD hS hA [] [0, 1, 2, 3] (w0 := []) (wr := [(q_o_former, .inl (cI, o_former_n, .inl o_former_f)), (q_o_lows, .inl (cI, o_lows_n, .inl o_lows_f)), (q_o_highs, .inl (cI, o_highs_n, .inl o_highs_f)), (q_o, .inr (7, [.int o_thrown, .int o_width, .int o_height, .ref q_o_former, .ref q_o_later, .ref q_o_charts, .ref q_o_lows, .ref q_o_highs, .int o_repeats, .int o_wide, .int o_floor, .int o_across, .int o_down, .long o_sum, .long o_many, .long o_above, .long o_below, .ref q_o_firsts, .ref q_o_changes, .int o_marked, .int o_spots, .int o_days, .ref q_o_dates, .ref q_o_kept]))]) rfl rfl (by decide) (by decide) (by decide) rfl hl.1 rfl (Nat.le_of_ble_eq_true rfl) d_Mod_repeat_12 ⟨Nat.le_of_ble_eq_true rfl, Nat.le_of_ble_eq_true rfl⟩ (fun w1 H locs hw1 hP hD hS => ?_)
  subst hw1
  have hP : va_P (dC, dI) vwCl [(q_o_former, .inl (cI, o_former_n, .inl o_former_f)), (q_o_lows, .inl (cI, o_lows_n, .inl o_lows_f)), (q_o_highs, .inl (cI, o_highs_n, .inl o_highs_f)), (q_o, .inr (7, [.int o_thrown, .int o_width, .int o_height, .ref q_o_former, .ref q_o_later, .ref q_o_charts, .ref q_o_lows, .ref q_o_highs, .int o_repeats, .int o_wide, .int o_floor, .int o_across, .int o_down, .long o_sum, .long o_many, .long o_above, .long o_below, .ref q_o_firsts, .ref q_o_changes, .int o_marked, .int o_spots, .int o_days, .ref q_o_dates, .ref q_o_kept]))] H := hP
  have hD : va_D A [(q_o_former, .inl (cI, o_former_n, .inl o_former_f)), (q_o_lows, .inl (cI, o_lows_n, .inl o_lows_f)), (q_o_highs, .inl (cI, o_highs_n, .inl o_highs_f)), (q_o, .inr (7, [.int o_thrown, .int o_width, .int o_height, .ref q_o_former, .ref q_o_later, .ref q_o_charts, .ref q_o_lows, .ref q_o_highs, .int o_repeats, .int o_wide, .int o_floor, .int o_across, .int o_down, .long o_sum, .long o_many, .long o_above, .long o_below, .ref q_o_firsts, .ref q_o_changes, .int o_marked, .int o_spots, .int o_days, .ref q_o_dates, .ref q_o_kept]))] := hD
  refine lv_iconst (v := 1) hx hb d_Mod_repeat_15 (by decide) ?_
  obtain ⟨⟨v3, u3_0⟩, hu3, h⟩ := pu_bd h
  try dsimp only at h
  refine cc_V (As := [.int v1, .int v2, .int 1]) (rest := []) ⟨hx, hb, hml, hown, hts⟩ (c_Mod_goes l dC dI cI cJ cZ q_o q_o_former q_o_later q_o_charts q_o_lows q_o_highs q_o_firsts q_o_changes q_o_dates q_o_kept v1 v2 1 o_thrown o_width o_height o_repeats o_wide o_floor o_across o_down o_sum o_many o_above o_below o_marked o_spots o_days v3 u3_0 hu3) (cwV 3 hts (gV k_697 k_699 kp_16 k_9 k_700 rfl) rfl rfl rfl hdV_Mod_goes ⟨Nat.le_of_ble_eq_true rfl, Nat.le_of_ble_eq_true rfl⟩) hK hN hP hD hS hA [3] [0, 1, 2] (w0 := [(q_o, .inr (7, [.int o_thrown, .int o_width, .int o_height, .ref q_o_former, .ref q_o_later, .ref q_o_charts, .ref q_o_lows, .ref q_o_highs, .int o_repeats, .int o_wide, .int o_floor, .int o_across, .int o_down, .long o_sum, .long o_many, .long o_above, .long o_below, .ref q_o_firsts, .ref q_o_changes, .int o_marked, .int o_spots, .int o_days, .ref q_o_dates, .ref q_o_kept]))]) (wr := [(q_o_former, .inl (cI, o_former_n, .inl o_former_f)), (q_o_lows, .inl (cI, o_lows_n, .inl o_lows_f)), (q_o_highs, .inl (cI, o_highs_n, .inl o_highs_f))]) rfl rfl (by decide) (by decide) (by decide) 7 rfl rfl rfl hl.1 rfl (Nat.le_of_ble_eq_true rfl) d_Mod_repeat_16 ⟨Nat.le_of_ble_eq_true rfl, Nat.le_of_ble_eq_true rfl⟩ (fun w1 H locs hw1 hP hD hS => ?_)
  subst hw1
  have hP : va_P (dC, dI) vwCl [(q_o_former, .inl (cI, o_former_n, .inl o_former_f)), (q_o_lows, .inl (cI, o_lows_n, .inl o_lows_f)), (q_o_highs, .inl (cI, o_highs_n, .inl o_highs_f)), (q_o, .inr (7, [.int u3_0, .int o_width, .int o_height, .ref q_o_former, .ref q_o_later, .ref q_o_charts, .ref q_o_lows, .ref q_o_highs, .int o_repeats, .int o_wide, .int o_floor, .int o_across, .int o_down, .long o_sum, .long o_many, .long o_above, .long o_below, .ref q_o_firsts, .ref q_o_changes, .int o_marked, .int o_spots, .int o_days, .ref q_o_dates, .ref q_o_kept]))] H := hP
  have hD : va_D A [(q_o_former, .inl (cI, o_former_n, .inl o_former_f)), (q_o_lows, .inl (cI, o_lows_n, .inl o_lows_f)), (q_o_highs, .inl (cI, o_highs_n, .inl o_highs_f)), (q_o, .inr (7, [.int u3_0, .int o_width, .int o_height, .ref q_o_former, .ref q_o_later, .ref q_o_charts, .ref q_o_lows, .ref q_o_highs, .int o_repeats, .int o_wide, .int o_floor, .int o_across, .int o_down, .long o_sum, .long o_many, .long o_above, .long o_below, .ref q_o_firsts, .ref q_o_changes, .int o_marked, .int o_spots, .int o_days, .ref q_o_dates, .ref q_o_kept]))] := hD
  refine lv_if_ne (tgt := 24) hx hb d_Mod_repeat_19 (by decide) (fun hc => ?_) (fun hc => ?_)
  · have h := pu_f hc h
    refine lv_bipush (v := 24) hx hb d_Mod_repeat_24 (by decide) ?_
    refine lv_iload_n hx hb d_Mod_repeat_26 rfl (lv_at hl 2 rfl) ?_
    refine lv_imul hx hb d_Mod_repeat_27 ?_
    refine lv_iload_n hx hb d_Mod_repeat_28 rfl (lv_at hl 1 rfl) ?_
    refine lv_iadd hx hb d_Mod_repeat_29 ?_
    refine lv_istore (lv' := [(4, .int ((24 * a2) + a1)), (0, .ref q_o), (1, .int a1), (2, .int a2), (3, .int a3)]) hx hb d_Mod_repeat_30 hl (by decide) rfl (fun ls hl => ?_)
    refine lv_aload_n hx hb d_Mod_repeat_32 rfl (lv_at hl 1 rfl) ?_
    refine va_get (D := (dC, dI)) (ci := 7) (v := .ref q_o_lows) (C := R_Mod) (T := F_Mod) (N := 24) hx hb hts i_Mod hown hK hP 3 rfl rfl 6 (by decide) (hts _ k_614) (fun _ h9 => h9) rfl d_Mod_repeat_33 ?_
    refine lv_iload hx hb d_Mod_repeat_36 (lv_at hl 0 rfl) ?_
    refine lv_iload_n hx hb d_Mod_repeat_38 rfl (lv_at hl 4 rfl) ?_
    refine lv_aload_n hx hb d_Mod_repeat_39 rfl (lv_at hl 1 rfl) ?_
    refine va_get (D := (dC, dI)) (ci := 7) (v := .ref q_o_lows) (C := R_Mod) (T := F_Mod) (N := 24) hx hb hts i_Mod hown hK hP 3 rfl rfl 6 (by decide) (hts _ k_614) (fun _ h9 => h9) rfl d_Mod_repeat_40 ?_
    refine lv_iload hx hb d_Mod_repeat_43 (lv_at hl 0 rfl) ?_
    obtain ⟨hg, h⟩ := pu_g h
    refine va_iald hx hb hK hP 1 0 rfl rfl hg d_Mod_repeat_45 ?_
    obtain ⟨j_4, hj_4, hx_4⟩ := pu_bd h
    have J_4 : ∀ (j4_5 : Int32) (H : Heap) (locs : List Loc) (ls : Array Slot), j_4 = j4_5 → lv_has ls 5 [(4, .int ((24 * a2) + a1)), (0, .ref q_o), (1, .int a1), (2, .int a2), (3, .int a3)] → va_P (dC, dI) vwCl [(q_o_former, .inl (cI, o_former_n, .inl o_former_f)), (q_o_lows, .inl (cI, o_lows_n, .inl o_lows_f)), (q_o_highs, .inl (cI, o_highs_n, .inl o_highs_f)), (q_o, .inr (7, [.int u3_0, .int o_width, .int o_height, .ref q_o_former, .ref q_o_later, .ref q_o_charts, .ref q_o_lows, .ref q_o_highs, .int o_repeats, .int o_wide, .int o_floor, .int o_across, .int o_down, .long o_sum, .long o_many, .long o_above, .long o_below, .ref q_o_firsts, .ref q_o_changes, .int o_marked, .int o_spots, .int o_days, .ref q_o_dates, .ref q_o_kept]))] H → va_D A [(q_o_former, .inl (cI, o_former_n, .inl o_former_f)), (q_o_lows, .inl (cI, o_lows_n, .inl o_lows_f)), (q_o_highs, .inl (cI, o_highs_n, .inl o_highs_f)), (q_o, .inr (7, [.int u3_0, .int o_width, .int o_height, .ref q_o_former, .ref q_o_later, .ref q_o_charts, .ref q_o_lows, .ref q_o_highs, .int o_repeats, .int o_wide, .int o_floor, .int o_across, .int o_down, .long o_sum, .long o_many, .long o_above, .long o_below, .ref q_o_firsts, .ref q_o_changes, .int o_marked, .int o_spots, .int o_days, .ref q_o_dates, .ref q_o_kept]))] → va_S A s.heap H locs → W p l e rm_Mod_repeat s m args below meth c H locs 0 0 Q (F0 m 60 ls [.int j4_5, .int ((24 * a2) + a1), .ref q_o_lows]) := by
      intro j4_5 H locs ls he hl hP hD hS
      have h := hx_4
      rw [he] at h
      try dsimp only at h
      obtain ⟨hg, h⟩ := pu_g h
      refine va_iast hx hb hK hP hD hS 1 0 rfl rfl hg d_Mod_repeat_60 (fun H locs hP hD hS => ?_)
      have hP : va_P (dC, dI) vwCl [(q_o_former, .inl (cI, o_former_n, .inl o_former_f)), (q_o_lows, .inl (cI, o_lows_n, .inl (upd o_lows_f ((24 * a2) + a1).toNatClampNeg j4_5))), (q_o_highs, .inl (cI, o_highs_n, .inl o_highs_f)), (q_o, .inr (7, [.int u3_0, .int o_width, .int o_height, .ref q_o_former, .ref q_o_later, .ref q_o_charts, .ref q_o_lows, .ref q_o_highs, .int o_repeats, .int o_wide, .int o_floor, .int o_across, .int o_down, .long o_sum, .long o_many, .long o_above, .long o_below, .ref q_o_firsts, .ref q_o_changes, .int o_marked, .int o_spots, .int o_days, .ref q_o_dates, .ref q_o_kept]))] H := hP
      have hD : va_D A [(q_o_former, .inl (cI, o_former_n, .inl o_former_f)), (q_o_lows, .inl (cI, o_lows_n, .inl (upd o_lows_f ((24 * a2) + a1).toNatClampNeg j4_5))), (q_o_highs, .inl (cI, o_highs_n, .inl o_highs_f)), (q_o, .inr (7, [.int u3_0, .int o_width, .int o_height, .ref q_o_former, .ref q_o_later, .ref q_o_charts, .ref q_o_lows, .ref q_o_highs, .int o_repeats, .int o_wide, .int o_floor, .int o_across, .int o_down, .long o_sum, .long o_many, .long o_above, .long o_below, .ref q_o_firsts, .ref q_o_changes, .int o_marked, .int o_spots, .int o_days, .ref q_o_dates, .ref q_o_kept]))] := hD
      refine lv_aload_n hx hb d_Mod_repeat_61 rfl (lv_at hl 1 rfl) ?_
      refine va_get (D := (dC, dI)) (ci := 7) (v := .ref q_o_highs) (C := R_Mod) (T := F_Mod) (N := 24) hx hb hts i_Mod hown hK hP 3 rfl rfl 7 (by decide) (hts _ k_615) (fun _ h9 => h9) rfl d_Mod_repeat_62 ?_
      refine lv_iload hx hb d_Mod_repeat_65 (lv_at hl 0 rfl) ?_
      refine lv_iload_n hx hb d_Mod_repeat_67 rfl (lv_at hl 4 rfl) ?_
      refine lv_aload_n hx hb d_Mod_repeat_68 rfl (lv_at hl 1 rfl) ?_
      refine va_get (D := (dC, dI)) (ci := 7) (v := .ref q_o_highs) (C := R_Mod) (T := F_Mod) (N := 24) hx hb hts i_Mod hown hK hP 3 rfl rfl 7 (by decide) (hts _ k_615) (fun _ h9 => h9) rfl d_Mod_repeat_69 ?_
      refine lv_iload hx hb d_Mod_repeat_72 (lv_at hl 0 rfl) ?_
      obtain ⟨hg, h⟩ := pu_g h
      refine va_iald hx hb hK hP 2 0 rfl rfl hg d_Mod_repeat_74 ?_
      obtain ⟨j_6, hj_6, hx_6⟩ := pu_bd h
      have J_6 : ∀ (j6_7 : Int32) (H : Heap) (locs : List Loc) (ls : Array Slot), j_6 = j6_7 → lv_has ls 5 [(4, .int ((24 * a2) + a1)), (0, .ref q_o), (1, .int a1), (2, .int a2), (3, .int a3)] → va_P (dC, dI) vwCl [(q_o_former, .inl (cI, o_former_n, .inl o_former_f)), (q_o_lows, .inl (cI, o_lows_n, .inl (upd o_lows_f ((24 * a2) + a1).toNatClampNeg j4_5))), (q_o_highs, .inl (cI, o_highs_n, .inl o_highs_f)), (q_o, .inr (7, [.int u3_0, .int o_width, .int o_height, .ref q_o_former, .ref q_o_later, .ref q_o_charts, .ref q_o_lows, .ref q_o_highs, .int o_repeats, .int o_wide, .int o_floor, .int o_across, .int o_down, .long o_sum, .long o_many, .long o_above, .long o_below, .ref q_o_firsts, .ref q_o_changes, .int o_marked, .int o_spots, .int o_days, .ref q_o_dates, .ref q_o_kept]))] H → va_D A [(q_o_former, .inl (cI, o_former_n, .inl o_former_f)), (q_o_lows, .inl (cI, o_lows_n, .inl (upd o_lows_f ((24 * a2) + a1).toNatClampNeg j4_5))), (q_o_highs, .inl (cI, o_highs_n, .inl o_highs_f)), (q_o, .inr (7, [.int u3_0, .int o_width, .int o_height, .ref q_o_former, .ref q_o_later, .ref q_o_charts, .ref q_o_lows, .ref q_o_highs, .int o_repeats, .int o_wide, .int o_floor, .int o_across, .int o_down, .long o_sum, .long o_many, .long o_above, .long o_below, .ref q_o_firsts, .ref q_o_changes, .int o_marked, .int o_spots, .int o_days, .ref q_o_dates, .ref q_o_kept]))] → va_S A s.heap H locs → W p l e rm_Mod_repeat s m args below meth c H locs 0 0 Q (F0 m 89 ls [.int j6_7, .int ((24 * a2) + a1), .ref q_o_highs]) := by
        intro j6_7 H locs ls he hl hP hD hS
        have h := hx_6
        rw [he] at h
        try dsimp only at h
        obtain ⟨hg, h⟩ := pu_g h
        refine va_iast hx hb hK hP hD hS 2 0 rfl rfl hg d_Mod_repeat_89 (fun H locs hP hD hS => ?_)
        have hP : va_P (dC, dI) vwCl [(q_o_former, .inl (cI, o_former_n, .inl o_former_f)), (q_o_lows, .inl (cI, o_lows_n, .inl (upd o_lows_f ((24 * a2) + a1).toNatClampNeg j4_5))), (q_o_highs, .inl (cI, o_highs_n, .inl (upd o_highs_f ((24 * a2) + a1).toNatClampNeg j6_7))), (q_o, .inr (7, [.int u3_0, .int o_width, .int o_height, .ref q_o_former, .ref q_o_later, .ref q_o_charts, .ref q_o_lows, .ref q_o_highs, .int o_repeats, .int o_wide, .int o_floor, .int o_across, .int o_down, .long o_sum, .long o_many, .long o_above, .long o_below, .ref q_o_firsts, .ref q_o_changes, .int o_marked, .int o_spots, .int o_days, .ref q_o_dates, .ref q_o_kept]))] H := hP
        have hD : va_D A [(q_o_former, .inl (cI, o_former_n, .inl o_former_f)), (q_o_lows, .inl (cI, o_lows_n, .inl (upd o_lows_f ((24 * a2) + a1).toNatClampNeg j4_5))), (q_o_highs, .inl (cI, o_highs_n, .inl (upd o_highs_f ((24 * a2) + a1).toNatClampNeg j6_7))), (q_o, .inr (7, [.int u3_0, .int o_width, .int o_height, .ref q_o_former, .ref q_o_later, .ref q_o_charts, .ref q_o_lows, .ref q_o_highs, .int o_repeats, .int o_wide, .int o_floor, .int o_across, .int o_down, .long o_sum, .long o_many, .long o_above, .long o_below, .ref q_o_firsts, .ref q_o_changes, .int o_marked, .int o_spots, .int o_days, .ref q_o_dates, .ref q_o_kept]))] := hD
        refine lv_aload_n hx hb d_Mod_repeat_90 rfl (lv_at hl 1 rfl) ?_
        refine lv_dup hx hb d_Mod_repeat_91 rfl ?_
        refine va_get (D := (dC, dI)) (ci := 7) (v := .int o_repeats) (C := R_Mod) (T := F_Mod) (N := 24) hx hb hts i_Mod hown hK hP 3 rfl rfl 8 (by decide) (hts _ k_616) (fun _ h9 => h9) rfl d_Mod_repeat_92 ?_
        refine lv_iconst (v := 1) hx hb d_Mod_repeat_95 (by decide) ?_
        refine lv_iadd hx hb d_Mod_repeat_96 ?_
        refine va_put (D := (dC, dI)) (ci := 7) (v := .int (o_repeats + 1)) (ty := .int) (C := R_Mod) (T := F_Mod) (N := 24) hx hb hts i_Mod t_Mod t_Mod_ok n_Mod hown hK hP hD hS 3 rfl rfl 8 (by decide) (hts _ k_616) (fun _ h9 => h9) rfl (by decide +kernel) rfl rfl (Nat.le_of_ble_eq_true rfl) d_Mod_repeat_97 (fun H locs hP hD hS => ?_)
        have hP : va_P (dC, dI) vwCl [(q_o_former, .inl (cI, o_former_n, .inl o_former_f)), (q_o_lows, .inl (cI, o_lows_n, .inl (upd o_lows_f ((24 * a2) + a1).toNatClampNeg j4_5))), (q_o_highs, .inl (cI, o_highs_n, .inl (upd o_highs_f ((24 * a2) + a1).toNatClampNeg j6_7))), (q_o, .inr (7, [.int u3_0, .int o_width, .int o_height, .ref q_o_former, .ref q_o_later, .ref q_o_charts, .ref q_o_lows, .ref q_o_highs, .int (o_repeats + 1), .int o_wide, .int o_floor, .int o_across, .int o_down, .long o_sum, .long o_many, .long o_above, .long o_below, .ref q_o_firsts, .ref q_o_changes, .int o_marked, .int o_spots, .int o_days, .ref q_o_dates, .ref q_o_kept]))] H := hP
        have hD : va_D A [(q_o_former, .inl (cI, o_former_n, .inl o_former_f)), (q_o_lows, .inl (cI, o_lows_n, .inl (upd o_lows_f ((24 * a2) + a1).toNatClampNeg j4_5))), (q_o_highs, .inl (cI, o_highs_n, .inl (upd o_highs_f ((24 * a2) + a1).toNatClampNeg j6_7))), (q_o, .inr (7, [.int u3_0, .int o_width, .int o_height, .ref q_o_former, .ref q_o_later, .ref q_o_charts, .ref q_o_lows, .ref q_o_highs, .int (o_repeats + 1), .int o_wide, .int o_floor, .int o_across, .int o_down, .long o_sum, .long o_many, .long o_above, .long o_below, .ref q_o_firsts, .ref q_o_changes, .int o_marked, .int o_spots, .int o_days, .ref q_o_dates, .ref q_o_kept]))] := hD
        refine lv_aload_n hx hb d_Mod_repeat_100 rfl (lv_at hl 1 rfl) ?_
        refine lv_iload_n hx hb d_Mod_repeat_101 rfl (lv_at hl 4 rfl) ?_
        refine lv_aload_n hx hb d_Mod_repeat_102 rfl (lv_at hl 1 rfl) ?_
        refine va_get (D := (dC, dI)) (ci := 7) (v := .ref q_o_former) (C := R_Mod) (T := F_Mod) (N := 24) hx hb hts i_Mod hown hK hP 3 rfl rfl 3 (by decide) (hts _ k_611) (fun _ h9 => h9) rfl d_Mod_repeat_103 ?_
        refine lv_iload hx hb d_Mod_repeat_106 (lv_at hl 0 rfl) ?_
        obtain ⟨hg, h⟩ := pu_g h
        refine va_iald hx hb hK hP 0 0 rfl rfl hg d_Mod_repeat_108 ?_
        obtain ⟨v8, hu8, h⟩ := pu_bd h
        refine cc_S (As := [.int a3, .int (o_former_f ((24 * a2) + a1).toNatClampNeg)]) (rest := [.ref q_o]) ⟨hx, hb, hml, hown, hts⟩ (c_Mod_apart l dC dI cI cJ cZ a3 (o_former_f ((24 * a2) + a1).toNatClampNeg) v8 hu8) (cwS 2 hts (gS k_718 k_719 k_9 k_720 rfl) rfl rfl rfl hdV_Mod_apart ⟨Nat.le_of_ble_eq_true rfl, Nat.le_of_ble_eq_true rfl⟩) hK hN hP hD hS hA [] [0, 1, 2, 3] (w0 := []) (wr := [(q_o_former, .inl (cI, o_former_n, .inl o_former_f)), (q_o_lows, .inl (cI, o_lows_n, .inl (upd o_lows_f ((24 * a2) + a1).toNatClampNeg j4_5))), (q_o_highs, .inl (cI, o_highs_n, .inl (upd o_highs_f ((24 * a2) + a1).toNatClampNeg j6_7))), (q_o, .inr (7, [.int u3_0, .int o_width, .int o_height, .ref q_o_former, .ref q_o_later, .ref q_o_charts, .ref q_o_lows, .ref q_o_highs, .int (o_repeats + 1), .int o_wide, .int o_floor, .int o_across, .int o_down, .long o_sum, .long o_many, .long o_above, .long o_below, .ref q_o_firsts, .ref q_o_changes, .int o_marked, .int o_spots, .int o_days, .ref q_o_dates, .ref q_o_kept]))]) rfl rfl (by decide) (by decide) (by decide) rfl hl.1 rfl (Nat.le_of_ble_eq_true rfl) d_Mod_repeat_109 ⟨Nat.le_of_ble_eq_true rfl, Nat.le_of_ble_eq_true rfl⟩ (fun w1 H locs hw1 hP hD hS => ?_)
        subst hw1
        have hP : va_P (dC, dI) vwCl [(q_o_former, .inl (cI, o_former_n, .inl o_former_f)), (q_o_lows, .inl (cI, o_lows_n, .inl (upd o_lows_f ((24 * a2) + a1).toNatClampNeg j4_5))), (q_o_highs, .inl (cI, o_highs_n, .inl (upd o_highs_f ((24 * a2) + a1).toNatClampNeg j6_7))), (q_o, .inr (7, [.int u3_0, .int o_width, .int o_height, .ref q_o_former, .ref q_o_later, .ref q_o_charts, .ref q_o_lows, .ref q_o_highs, .int (o_repeats + 1), .int o_wide, .int o_floor, .int o_across, .int o_down, .long o_sum, .long o_many, .long o_above, .long o_below, .ref q_o_firsts, .ref q_o_changes, .int o_marked, .int o_spots, .int o_days, .ref q_o_dates, .ref q_o_kept]))] H := hP
        have hD : va_D A [(q_o_former, .inl (cI, o_former_n, .inl o_former_f)), (q_o_lows, .inl (cI, o_lows_n, .inl (upd o_lows_f ((24 * a2) + a1).toNatClampNeg j4_5))), (q_o_highs, .inl (cI, o_highs_n, .inl (upd o_highs_f ((24 * a2) + a1).toNatClampNeg j6_7))), (q_o, .inr (7, [.int u3_0, .int o_width, .int o_height, .ref q_o_former, .ref q_o_later, .ref q_o_charts, .ref q_o_lows, .ref q_o_highs, .int (o_repeats + 1), .int o_wide, .int o_floor, .int o_across, .int o_down, .long o_sum, .long o_many, .long o_above, .long o_below, .ref q_o_firsts, .ref q_o_changes, .int o_marked, .int o_spots, .int o_days, .ref q_o_dates, .ref q_o_kept]))] := hD
        refine lv_aload_n hx hb d_Mod_repeat_112 rfl (lv_at hl 1 rfl) ?_
        refine va_get (D := (dC, dI)) (ci := 7) (v := .int o_floor) (C := R_Mod) (T := F_Mod) (N := 24) hx hb hts i_Mod hown hK hP 3 rfl rfl 10 (by decide) (hts _ k_618) (fun _ h9 => h9) rfl d_Mod_repeat_113 ?_
        refine lv_icmp_le (tgt := 128) hx hb d_Mod_repeat_116 (by decide) (fun hc => ?_) (fun hc => ?_)
        · have h := pu_t hc h
          refine lv_aload_n hx hb d_Mod_repeat_128 rfl (lv_at hl 1 rfl) ?_
          refine va_get (D := (dC, dI)) (ci := 7) (v := .int o_wide) (C := R_Mod) (T := F_Mod) (N := 24) hx hb hts i_Mod hown hK hP 3 rfl rfl 9 (by decide) (hts _ k_617) (fun _ h9 => h9) rfl d_Mod_repeat_129 ?_
          refine va_put (D := (dC, dI)) (ci := 7) (v := .int o_wide) (ty := .int) (C := R_Mod) (T := F_Mod) (N := 24) hx hb hts i_Mod t_Mod t_Mod_ok n_Mod hown hK hP hD hS 3 rfl rfl 9 (by decide) (hts _ k_617) (fun _ h9 => h9) rfl (by decide +kernel) rfl rfl (Nat.le_of_ble_eq_true rfl) d_Mod_repeat_132 (fun H locs hP hD hS => ?_)
          have hP : va_P (dC, dI) vwCl [(q_o_former, .inl (cI, o_former_n, .inl o_former_f)), (q_o_lows, .inl (cI, o_lows_n, .inl (upd o_lows_f ((24 * a2) + a1).toNatClampNeg j4_5))), (q_o_highs, .inl (cI, o_highs_n, .inl (upd o_highs_f ((24 * a2) + a1).toNatClampNeg j6_7))), (q_o, .inr (7, [.int u3_0, .int o_width, .int o_height, .ref q_o_former, .ref q_o_later, .ref q_o_charts, .ref q_o_lows, .ref q_o_highs, .int (o_repeats + 1), .int o_wide, .int o_floor, .int o_across, .int o_down, .long o_sum, .long o_many, .long o_above, .long o_below, .ref q_o_firsts, .ref q_o_changes, .int o_marked, .int o_spots, .int o_days, .ref q_o_dates, .ref q_o_kept]))] H := hP
          have hD : va_D A [(q_o_former, .inl (cI, o_former_n, .inl o_former_f)), (q_o_lows, .inl (cI, o_lows_n, .inl (upd o_lows_f ((24 * a2) + a1).toNatClampNeg j4_5))), (q_o_highs, .inl (cI, o_highs_n, .inl (upd o_highs_f ((24 * a2) + a1).toNatClampNeg j6_7))), (q_o, .inr (7, [.int u3_0, .int o_width, .int o_height, .ref q_o_former, .ref q_o_later, .ref q_o_charts, .ref q_o_lows, .ref q_o_highs, .int (o_repeats + 1), .int o_wide, .int o_floor, .int o_across, .int o_down, .long o_sum, .long o_many, .long o_above, .long o_below, .ref q_o_firsts, .ref q_o_changes, .int o_marked, .int o_spots, .int o_days, .ref q_o_dates, .ref q_o_kept]))] := hD
          refine lv_aload_n hx hb d_Mod_repeat_135 rfl (lv_at hl 1 rfl) ?_
          refine lv_iload hx hb d_Mod_repeat_136 (lv_at hl 0 rfl) ?_
          obtain ⟨v9, hu9, h⟩ := pu_bd h
          refine cc_V (As := [.int ((24 * a2) + a1)]) (rest := []) ⟨hx, hb, hml, hown, hts⟩ (c_Mod_boundOf l dC dI cI cJ cZ q_o q_o_former q_o_later q_o_charts q_o_lows q_o_highs q_o_firsts q_o_changes q_o_dates q_o_kept ((24 * a2) + a1) u3_0 o_width o_height (o_repeats + 1) o_wide o_floor o_across o_down o_sum o_many o_above o_below o_marked o_spots o_days o_former_n o_former_f o_lows_n (upd o_lows_f ((24 * a2) + a1).toNatClampNeg j4_5) o_highs_n (upd o_highs_f ((24 * a2) + a1).toNatClampNeg j6_7) v9 hu9) (cwV 1 hts (gV k_748 k_750 kp_22 k_9 k_751 rfl) rfl rfl rfl hdV_Mod_boundOf ⟨Nat.le_of_ble_eq_true rfl, Nat.le_of_ble_eq_true rfl⟩) hK hN hP hD hS hA [3, 0, 1, 2] [] (w0 := [(q_o, .inr (7, [.int u3_0, .int o_width, .int o_height, .ref q_o_former, .ref q_o_later, .ref q_o_charts, .ref q_o_lows, .ref q_o_highs, .int (o_repeats + 1), .int o_wide, .int o_floor, .int o_across, .int o_down, .long o_sum, .long o_many, .long o_above, .long o_below, .ref q_o_firsts, .ref q_o_changes, .int o_marked, .int o_spots, .int o_days, .ref q_o_dates, .ref q_o_kept])), (q_o_former, .inl (cI, o_former_n, .inl o_former_f)), (q_o_lows, .inl (cI, o_lows_n, .inl (upd o_lows_f ((24 * a2) + a1).toNatClampNeg j4_5))), (q_o_highs, .inl (cI, o_highs_n, .inl (upd o_highs_f ((24 * a2) + a1).toNatClampNeg j6_7)))]) (wr := []) rfl rfl (by decide) (by decide) (by decide) 7 rfl rfl rfl hl.1 rfl (Nat.le_of_ble_eq_true rfl) d_Mod_repeat_138 ⟨Nat.le_of_ble_eq_true rfl, Nat.le_of_ble_eq_true rfl⟩ (fun w1 H locs hw1 hP hD hS => ?_)
          subst hw1
          have hP : va_P (dC, dI) vwCl [(q_o, .inr (7, [.int u3_0, .int o_width, .int o_height, .ref q_o_former, .ref q_o_later, .ref q_o_charts, .ref q_o_lows, .ref q_o_highs, .int (o_repeats + 1), .int o_wide, .int o_floor, .int o_across, .int o_down, .long o_sum, .long o_many, .long o_above, .long o_below, .ref q_o_firsts, .ref q_o_changes, .int o_marked, .int o_spots, .int o_days, .ref q_o_dates, .ref q_o_kept])), (q_o_former, .inl (cI, o_former_n, .inl o_former_f)), (q_o_lows, .inl (cI, o_lows_n, .inl (upd o_lows_f ((24 * a2) + a1).toNatClampNeg j4_5))), (q_o_highs, .inl (cI, o_highs_n, .inl (upd o_highs_f ((24 * a2) + a1).toNatClampNeg j6_7)))] H := hP
          have hD : va_D A [(q_o, .inr (7, [.int u3_0, .int o_width, .int o_height, .ref q_o_former, .ref q_o_later, .ref q_o_charts, .ref q_o_lows, .ref q_o_highs, .int (o_repeats + 1), .int o_wide, .int o_floor, .int o_across, .int o_down, .long o_sum, .long o_many, .long o_above, .long o_below, .ref q_o_firsts, .ref q_o_changes, .int o_marked, .int o_spots, .int o_days, .ref q_o_dates, .ref q_o_kept])), (q_o_former, .inl (cI, o_former_n, .inl o_former_f)), (q_o_lows, .inl (cI, o_lows_n, .inl (upd o_lows_f ((24 * a2) + a1).toNatClampNeg j4_5))), (q_o_highs, .inl (cI, o_highs_n, .inl (upd o_highs_f ((24 * a2) + a1).toNatClampNeg j6_7)))] := hD
          cases h
          refine W.widen (k := 0) (n := 0) (Nat.le_of_ble_eq_true rfl) (Nat.le_of_ble_eq_true rfl) ?_
          exact RT 141 ls H locs _ d_Mod_repeat_141 (Or.inr (Or.inl ⟨rfl, _, rfl⟩)) rfl (hP.sub [0, 1, 2, 3] rfl) (hD.sub [0, 1, 2, 3] (by decide) rfl) hS
        · have h := pu_f hc h
          refine lv_aload_n hx hb d_Mod_repeat_119 rfl (lv_at hl 1 rfl) ?_
          refine va_get (D := (dC, dI)) (ci := 7) (v := .int o_wide) (C := R_Mod) (T := F_Mod) (N := 24) hx hb hts i_Mod hown hK hP 3 rfl rfl 9 (by decide) (hts _ k_617) (fun _ h9 => h9) rfl d_Mod_repeat_120 ?_
          refine lv_iconst (v := 1) hx hb d_Mod_repeat_123 (by decide) ?_
          refine lv_iadd hx hb d_Mod_repeat_124 ?_
          refine lv_goto (tgt := 132) hx hb d_Mod_repeat_125 (by decide) ?_
          refine va_put (D := (dC, dI)) (ci := 7) (v := .int (o_wide + 1)) (ty := .int) (C := R_Mod) (T := F_Mod) (N := 24) hx hb hts i_Mod t_Mod t_Mod_ok n_Mod hown hK hP hD hS 3 rfl rfl 9 (by decide) (hts _ k_617) (fun _ h9 => h9) rfl (by decide +kernel) rfl rfl (Nat.le_of_ble_eq_true rfl) d_Mod_repeat_132 (fun H locs hP hD hS => ?_)
          have hP : va_P (dC, dI) vwCl [(q_o_former, .inl (cI, o_former_n, .inl o_former_f)), (q_o_lows, .inl (cI, o_lows_n, .inl (upd o_lows_f ((24 * a2) + a1).toNatClampNeg j4_5))), (q_o_highs, .inl (cI, o_highs_n, .inl (upd o_highs_f ((24 * a2) + a1).toNatClampNeg j6_7))), (q_o, .inr (7, [.int u3_0, .int o_width, .int o_height, .ref q_o_former, .ref q_o_later, .ref q_o_charts, .ref q_o_lows, .ref q_o_highs, .int (o_repeats + 1), .int (o_wide + 1), .int o_floor, .int o_across, .int o_down, .long o_sum, .long o_many, .long o_above, .long o_below, .ref q_o_firsts, .ref q_o_changes, .int o_marked, .int o_spots, .int o_days, .ref q_o_dates, .ref q_o_kept]))] H := hP
          have hD : va_D A [(q_o_former, .inl (cI, o_former_n, .inl o_former_f)), (q_o_lows, .inl (cI, o_lows_n, .inl (upd o_lows_f ((24 * a2) + a1).toNatClampNeg j4_5))), (q_o_highs, .inl (cI, o_highs_n, .inl (upd o_highs_f ((24 * a2) + a1).toNatClampNeg j6_7))), (q_o, .inr (7, [.int u3_0, .int o_width, .int o_height, .ref q_o_former, .ref q_o_later, .ref q_o_charts, .ref q_o_lows, .ref q_o_highs, .int (o_repeats + 1), .int (o_wide + 1), .int o_floor, .int o_across, .int o_down, .long o_sum, .long o_many, .long o_above, .long o_below, .ref q_o_firsts, .ref q_o_changes, .int o_marked, .int o_spots, .int o_days, .ref q_o_dates, .ref q_o_kept]))] := hD
          refine lv_aload_n hx hb d_Mod_repeat_135 rfl (lv_at hl 1 rfl) ?_
          refine lv_iload hx hb d_Mod_repeat_136 (lv_at hl 0 rfl) ?_
          obtain ⟨v10, hu10, h⟩ := pu_bd h
          refine cc_V (As := [.int ((24 * a2) + a1)]) (rest := []) ⟨hx, hb, hml, hown, hts⟩ (c_Mod_boundOf l dC dI cI cJ cZ q_o q_o_former q_o_later q_o_charts q_o_lows q_o_highs q_o_firsts q_o_changes q_o_dates q_o_kept ((24 * a2) + a1) u3_0 o_width o_height (o_repeats + 1) (o_wide + 1) o_floor o_across o_down o_sum o_many o_above o_below o_marked o_spots o_days o_former_n o_former_f o_lows_n (upd o_lows_f ((24 * a2) + a1).toNatClampNeg j4_5) o_highs_n (upd o_highs_f ((24 * a2) + a1).toNatClampNeg j6_7) v10 hu10) (cwV 1 hts (gV k_748 k_750 kp_22 k_9 k_751 rfl) rfl rfl rfl hdV_Mod_boundOf ⟨Nat.le_of_ble_eq_true rfl, Nat.le_of_ble_eq_true rfl⟩) hK hN hP hD hS hA [3, 0, 1, 2] [] (w0 := [(q_o, .inr (7, [.int u3_0, .int o_width, .int o_height, .ref q_o_former, .ref q_o_later, .ref q_o_charts, .ref q_o_lows, .ref q_o_highs, .int (o_repeats + 1), .int (o_wide + 1), .int o_floor, .int o_across, .int o_down, .long o_sum, .long o_many, .long o_above, .long o_below, .ref q_o_firsts, .ref q_o_changes, .int o_marked, .int o_spots, .int o_days, .ref q_o_dates, .ref q_o_kept])), (q_o_former, .inl (cI, o_former_n, .inl o_former_f)), (q_o_lows, .inl (cI, o_lows_n, .inl (upd o_lows_f ((24 * a2) + a1).toNatClampNeg j4_5))), (q_o_highs, .inl (cI, o_highs_n, .inl (upd o_highs_f ((24 * a2) + a1).toNatClampNeg j6_7)))]) (wr := []) rfl rfl (by decide) (by decide) (by decide) 7 rfl rfl rfl hl.1 rfl (Nat.le_of_ble_eq_true rfl) d_Mod_repeat_138 ⟨Nat.le_of_ble_eq_true rfl, Nat.le_of_ble_eq_true rfl⟩ (fun w1 H locs hw1 hP hD hS => ?_)
          subst hw1
          have hP : va_P (dC, dI) vwCl [(q_o, .inr (7, [.int u3_0, .int o_width, .int o_height, .ref q_o_former, .ref q_o_later, .ref q_o_charts, .ref q_o_lows, .ref q_o_highs, .int (o_repeats + 1), .int (o_wide + 1), .int o_floor, .int o_across, .int o_down, .long o_sum, .long o_many, .long o_above, .long o_below, .ref q_o_firsts, .ref q_o_changes, .int o_marked, .int o_spots, .int o_days, .ref q_o_dates, .ref q_o_kept])), (q_o_former, .inl (cI, o_former_n, .inl o_former_f)), (q_o_lows, .inl (cI, o_lows_n, .inl (upd o_lows_f ((24 * a2) + a1).toNatClampNeg j4_5))), (q_o_highs, .inl (cI, o_highs_n, .inl (upd o_highs_f ((24 * a2) + a1).toNatClampNeg j6_7)))] H := hP
          have hD : va_D A [(q_o, .inr (7, [.int u3_0, .int o_width, .int o_height, .ref q_o_former, .ref q_o_later, .ref q_o_charts, .ref q_o_lows, .ref q_o_highs, .int (o_repeats + 1), .int (o_wide + 1), .int o_floor, .int o_across, .int o_down, .long o_sum, .long o_many, .long o_above, .long o_below, .ref q_o_firsts, .ref q_o_changes, .int o_marked, .int o_spots, .int o_days, .ref q_o_dates, .ref q_o_kept])), (q_o_former, .inl (cI, o_former_n, .inl o_former_f)), (q_o_lows, .inl (cI, o_lows_n, .inl (upd o_lows_f ((24 * a2) + a1).toNatClampNeg j4_5))), (q_o_highs, .inl (cI, o_highs_n, .inl (upd o_highs_f ((24 * a2) + a1).toNatClampNeg j6_7)))] := hD
          cases h
          refine W.widen (k := 0) (n := 0) (Nat.le_of_ble_eq_true rfl) (Nat.le_of_ble_eq_true rfl) ?_
          exact RT 141 ls H locs _ d_Mod_repeat_141 (Or.inr (Or.inl ⟨rfl, _, rfl⟩)) rfl (hP.sub [0, 1, 2, 3] rfl) (hD.sub [0, 1, 2, 3] (by decide) rfl) hS
      have h := hj_6
      refine lv_icmp_le (tgt := 82) hx hb d_Mod_repeat_75 (by decide) (fun hc => ?_) (fun hc => ?_)
      · have h := pu_t hc h
        refine lv_aload_n hx hb d_Mod_repeat_82 rfl (lv_at hl 1 rfl) ?_
        refine va_get (D := (dC, dI)) (ci := 7) (v := .ref q_o_highs) (C := R_Mod) (T := F_Mod) (N := 24) hx hb hts i_Mod hown hK hP 3 rfl rfl 7 (by decide) (hts _ k_615) (fun _ h9 => h9) rfl d_Mod_repeat_83 ?_
        refine lv_iload hx hb d_Mod_repeat_86 (lv_at hl 0 rfl) ?_
        obtain ⟨hg, h⟩ := pu_g h
        refine va_iald hx hb hK hP 2 0 rfl rfl hg d_Mod_repeat_88 ?_
        exact J_6 (o_highs_f ((24 * a2) + a1).toNatClampNeg) H locs ls (Option.some.inj h).symm (lv_sub hl [0, 1, 2, 3, 4] rfl) (hP.sub [0, 1, 2, 3] rfl) (hD.sub [0, 1, 2, 3] (by decide) rfl) hS
      · have h := pu_f hc h
        refine lv_iload_n hx hb d_Mod_repeat_78 rfl (lv_at hl 4 rfl) ?_
        refine lv_goto (tgt := 89) hx hb d_Mod_repeat_79 (by decide) ?_
        exact J_6 a3 H locs ls (Option.some.inj h).symm (lv_sub hl [0, 1, 2, 3, 4] rfl) (hP.sub [0, 1, 2, 3] rfl) (hD.sub [0, 1, 2, 3] (by decide) rfl) hS
    have h := hj_4
    refine lv_icmp_ge (tgt := 53) hx hb d_Mod_repeat_46 (by decide) (fun hc => ?_) (fun hc => ?_)
    · have h := pu_t hc h
      refine lv_aload_n hx hb d_Mod_repeat_53 rfl (lv_at hl 1 rfl) ?_
      refine va_get (D := (dC, dI)) (ci := 7) (v := .ref q_o_lows) (C := R_Mod) (T := F_Mod) (N := 24) hx hb hts i_Mod hown hK hP 3 rfl rfl 6 (by decide) (hts _ k_614) (fun _ h9 => h9) rfl d_Mod_repeat_54 ?_
      refine lv_iload hx hb d_Mod_repeat_57 (lv_at hl 0 rfl) ?_
      obtain ⟨hg, h⟩ := pu_g h
      refine va_iald hx hb hK hP 1 0 rfl rfl hg d_Mod_repeat_59 ?_
      exact J_4 (o_lows_f ((24 * a2) + a1).toNatClampNeg) H locs ls (Option.some.inj h).symm (lv_sub hl [0, 1, 2, 3, 4] rfl) (hP.sub [0, 1, 2, 3] rfl) (hD.sub [0, 1, 2, 3] (by decide) rfl) hS
    · have h := pu_f hc h
      refine lv_iload_n hx hb d_Mod_repeat_49 rfl (lv_at hl 4 rfl) ?_
      refine lv_goto (tgt := 60) hx hb d_Mod_repeat_50 (by decide) ?_
      exact J_4 a3 H locs ls (Option.some.inj h).symm (lv_sub hl [0, 1, 2, 3, 4] rfl) (hP.sub [0, 1, 2, 3] rfl) (hD.sub [0, 1, 2, 3] (by decide) rfl) hS
  · have h := pu_t hc h
    refine lv_iconst (v := 0) hx hb d_Mod_repeat_22 (by decide) ?_
    cases h
    refine W.widen (k := 0) (n := 0) (Nat.le_of_ble_eq_true rfl) (Nat.le_of_ble_eq_true rfl) ?_
    exact RT 23 ls H locs _ d_Mod_repeat_23 (Or.inr (Or.inl ⟨rfl, _, rfl⟩)) rfl (hP.sub [3, 0, 1, 2] rfl) (hD.sub [3, 0, 1, 2] (by decide) rfl) hS

noncomputable def p_Mod_floor (a1 : Int32) (o_thrown : Int32) (o_width : Int32) (o_height : Int32) (o_repeats : Int32) (o_wide : Int32) (o_floor : Int32) (o_across : Int32) (o_down : Int32) (o_sum : Int64) (o_many : Int64) (o_above : Int64) (o_below : Int64) (o_marked : Int32) (o_spots : Int32) (o_days : Int32) : Option (Int32 × Int32 × Int32) :=
  (p_Mod_within a1 0 255).bind (fun (v1 : Int32) => (p_Mod_goes v1 1 1 o_thrown o_width o_height o_repeats o_wide o_floor o_across o_down o_sum o_many o_above o_below o_marked o_spots o_days).bind (fun ((v2, u2_0) : Int32 × Int32) => (if v2 = 0 then some (0, u2_0, o_floor) else some (o_floor, u2_0, a1))))
set_option maxHeartbeats 4000000 in
set_option maxRecDepth 100000 in
theorem c_Mod_floor (l : Launch) (dC : Nat → ClassId) (dI : Nat → Nat → Nat) (cI cJ cZ : ClassId) (q_o q_o_former q_o_later q_o_charts q_o_lows q_o_highs q_o_firsts q_o_changes q_o_dates q_o_kept : Nat) (a1 : Int32) (o_thrown : Int32) (o_width : Int32) (o_height : Int32) (o_repeats : Int32) (o_wide : Int32) (o_floor : Int32) (o_across : Int32) (o_down : Int32) (o_sum : Int64) (o_many : Int64) (o_above : Int64) (o_below : Int64) (o_marked : Int32) (o_spots : Int32) (o_days : Int32) (r0 : Int32) (r1 : Int32) (r2 : Int32) (h : p_Mod_floor a1 o_thrown o_width o_height o_repeats o_wide o_floor o_across o_down o_sum o_many o_above o_below o_marked o_spots o_days = some (r0, r1, r2)) : ct l y_Mod_floor w_Mod_floor rm_Mod_floor (dC, dI) [(cI, .int), (cJ, .long), (cZ, .boolean)] [.ref q_o, .int a1] [(q_o, .inr (7, [.int o_thrown, .int o_width, .int o_height, .ref q_o_former, .ref q_o_later, .ref q_o_charts, .ref q_o_lows, .ref q_o_highs, .int o_repeats, .int o_wide, .int o_floor, .int o_across, .int o_down, .long o_sum, .long o_many, .long o_above, .long o_below, .ref q_o_firsts, .ref q_o_changes, .int o_marked, .int o_spots, .int o_days, .ref q_o_dates, .ref q_o_kept]))] (fun w => w = [(q_o, .inr (7, [.int r1, .int o_width, .int o_height, .ref q_o_former, .ref q_o_later, .ref q_o_charts, .ref q_o_lows, .ref q_o_highs, .int o_repeats, .int o_wide, .int r2, .int o_across, .int o_down, .long o_sum, .long o_many, .long o_above, .long o_below, .ref q_o_firsts, .ref q_o_changes, .int o_marked, .int o_spots, .int o_days, .ref q_o_dates, .ref q_o_kept]))]) (some (.int r0)) := by
  refine ct_of (cc := b_Mod_floor) (maxL := 3) (ret := (some .int)) (lv := [(0, .ref q_o), (1, .int a1)]) (by decide) rfl rfl rfl ?_
  intro p e s m args below meth c A Q H locs hx hb hml hown hts hin hA hK hN hP hD hS RT ls hl
  unfold p_Mod_floor at h
  refine lv_aload_n hx hb d_Mod_floor_0 rfl (lv_at hl 0 rfl) ?_
  refine lv_iload_n hx hb d_Mod_floor_1 rfl (lv_at hl 1 rfl) ?_
  refine lv_iconst (v := 0) hx hb d_Mod_floor_2 (by decide) ?_
  refine lv_sipush (v := 255) hx hb d_Mod_floor_3 (by decide) ?_
  obtain ⟨v1, hu1, h⟩ := pu_bd h
  refine cc_S (As := [.int a1, .int 0, .int 255]) (rest := [.ref q_o]) ⟨hx, hb, hml, hown, hts⟩ (c_Mod_within l dC dI cI cJ cZ a1 0 255 v1 hu1) (cwS 3 hts (gS k_694 k_695 k_9 k_696 rfl) rfl rfl rfl hdV_Mod_within ⟨Nat.le_of_ble_eq_true rfl, Nat.le_of_ble_eq_true rfl⟩) hK hN hP hD hS hA [] [0] (w0 := []) (wr := [(q_o, .inr (7, [.int o_thrown, .int o_width, .int o_height, .ref q_o_former, .ref q_o_later, .ref q_o_charts, .ref q_o_lows, .ref q_o_highs, .int o_repeats, .int o_wide, .int o_floor, .int o_across, .int o_down, .long o_sum, .long o_many, .long o_above, .long o_below, .ref q_o_firsts, .ref q_o_changes, .int o_marked, .int o_spots, .int o_days, .ref q_o_dates, .ref q_o_kept]))]) rfl rfl (by decide) (by decide) (by decide) rfl hl.1 rfl (Nat.le_of_ble_eq_true rfl) d_Mod_floor_6 ⟨Nat.le_of_ble_eq_true rfl, Nat.le_of_ble_eq_true rfl⟩ (fun w1 H locs hw1 hP hD hS => ?_)
  subst hw1
  have hP : va_P (dC, dI) vwCl [(q_o, .inr (7, [.int o_thrown, .int o_width, .int o_height, .ref q_o_former, .ref q_o_later, .ref q_o_charts, .ref q_o_lows, .ref q_o_highs, .int o_repeats, .int o_wide, .int o_floor, .int o_across, .int o_down, .long o_sum, .long o_many, .long o_above, .long o_below, .ref q_o_firsts, .ref q_o_changes, .int o_marked, .int o_spots, .int o_days, .ref q_o_dates, .ref q_o_kept]))] H := hP
  have hD : va_D A [(q_o, .inr (7, [.int o_thrown, .int o_width, .int o_height, .ref q_o_former, .ref q_o_later, .ref q_o_charts, .ref q_o_lows, .ref q_o_highs, .int o_repeats, .int o_wide, .int o_floor, .int o_across, .int o_down, .long o_sum, .long o_many, .long o_above, .long o_below, .ref q_o_firsts, .ref q_o_changes, .int o_marked, .int o_spots, .int o_days, .ref q_o_dates, .ref q_o_kept]))] := hD
  refine lv_iconst (v := 1) hx hb d_Mod_floor_9 (by decide) ?_
  refine lv_iconst (v := 1) hx hb d_Mod_floor_10 (by decide) ?_
  obtain ⟨⟨v2, u2_0⟩, hu2, h⟩ := pu_bd h
  try dsimp only at h
  refine cc_V (As := [.int v1, .int 1, .int 1]) (rest := []) ⟨hx, hb, hml, hown, hts⟩ (c_Mod_goes l dC dI cI cJ cZ q_o q_o_former q_o_later q_o_charts q_o_lows q_o_highs q_o_firsts q_o_changes q_o_dates q_o_kept v1 1 1 o_thrown o_width o_height o_repeats o_wide o_floor o_across o_down o_sum o_many o_above o_below o_marked o_spots o_days v2 u2_0 hu2) (cwV 3 hts (gV k_697 k_699 kp_16 k_9 k_700 rfl) rfl rfl rfl hdV_Mod_goes ⟨Nat.le_of_ble_eq_true rfl, Nat.le_of_ble_eq_true rfl⟩) hK hN hP hD hS hA [0] [] (w0 := [(q_o, .inr (7, [.int o_thrown, .int o_width, .int o_height, .ref q_o_former, .ref q_o_later, .ref q_o_charts, .ref q_o_lows, .ref q_o_highs, .int o_repeats, .int o_wide, .int o_floor, .int o_across, .int o_down, .long o_sum, .long o_many, .long o_above, .long o_below, .ref q_o_firsts, .ref q_o_changes, .int o_marked, .int o_spots, .int o_days, .ref q_o_dates, .ref q_o_kept]))]) (wr := []) rfl rfl (by decide) (by decide) (by decide) 7 rfl rfl rfl hl.1 rfl (Nat.le_of_ble_eq_true rfl) d_Mod_floor_11 ⟨Nat.le_of_ble_eq_true rfl, Nat.le_of_ble_eq_true rfl⟩ (fun w1 H locs hw1 hP hD hS => ?_)
  subst hw1
  have hP : va_P (dC, dI) vwCl [(q_o, .inr (7, [.int u2_0, .int o_width, .int o_height, .ref q_o_former, .ref q_o_later, .ref q_o_charts, .ref q_o_lows, .ref q_o_highs, .int o_repeats, .int o_wide, .int o_floor, .int o_across, .int o_down, .long o_sum, .long o_many, .long o_above, .long o_below, .ref q_o_firsts, .ref q_o_changes, .int o_marked, .int o_spots, .int o_days, .ref q_o_dates, .ref q_o_kept]))] H := hP
  have hD : va_D A [(q_o, .inr (7, [.int u2_0, .int o_width, .int o_height, .ref q_o_former, .ref q_o_later, .ref q_o_charts, .ref q_o_lows, .ref q_o_highs, .int o_repeats, .int o_wide, .int o_floor, .int o_across, .int o_down, .long o_sum, .long o_many, .long o_above, .long o_below, .ref q_o_firsts, .ref q_o_changes, .int o_marked, .int o_spots, .int o_days, .ref q_o_dates, .ref q_o_kept]))] := hD
  refine lv_if_ne (tgt := 19) hx hb d_Mod_floor_14 (by decide) (fun hc => ?_) (fun hc => ?_)
  · have h := pu_f hc h
    refine lv_aload_n hx hb d_Mod_floor_19 rfl (lv_at hl 0 rfl) ?_
    refine va_get (D := (dC, dI)) (ci := 7) (v := .int o_floor) (C := R_Mod) (T := F_Mod) (N := 24) hx hb hts i_Mod hown hK hP 0 rfl rfl 10 (by decide) (hts _ k_618) (fun _ h9 => h9) rfl d_Mod_floor_20 ?_
    refine lv_istore_n (lv' := [(2, .int o_floor), (0, .ref q_o), (1, .int a1)]) hx hb d_Mod_floor_23 rfl hl (by decide) rfl (fun ls hl => ?_)
    refine lv_aload_n hx hb d_Mod_floor_24 rfl (lv_at hl 1 rfl) ?_
    refine lv_iload_n hx hb d_Mod_floor_25 rfl (lv_at hl 2 rfl) ?_
    refine va_put (D := (dC, dI)) (ci := 7) (v := .int a1) (ty := .int) (C := R_Mod) (T := F_Mod) (N := 24) hx hb hts i_Mod t_Mod t_Mod_ok n_Mod hown hK hP hD hS 0 rfl rfl 10 (by decide) (hts _ k_618) (fun _ h9 => h9) rfl (by decide +kernel) rfl rfl (Nat.le_of_ble_eq_true rfl) d_Mod_floor_26 (fun H locs hP hD hS => ?_)
    have hP : va_P (dC, dI) vwCl [(q_o, .inr (7, [.int u2_0, .int o_width, .int o_height, .ref q_o_former, .ref q_o_later, .ref q_o_charts, .ref q_o_lows, .ref q_o_highs, .int o_repeats, .int o_wide, .int a1, .int o_across, .int o_down, .long o_sum, .long o_many, .long o_above, .long o_below, .ref q_o_firsts, .ref q_o_changes, .int o_marked, .int o_spots, .int o_days, .ref q_o_dates, .ref q_o_kept]))] H := hP
    have hD : va_D A [(q_o, .inr (7, [.int u2_0, .int o_width, .int o_height, .ref q_o_former, .ref q_o_later, .ref q_o_charts, .ref q_o_lows, .ref q_o_highs, .int o_repeats, .int o_wide, .int a1, .int o_across, .int o_down, .long o_sum, .long o_many, .long o_above, .long o_below, .ref q_o_firsts, .ref q_o_changes, .int o_marked, .int o_spots, .int o_days, .ref q_o_dates, .ref q_o_kept]))] := hD
    refine lv_iload_n hx hb d_Mod_floor_29 rfl (lv_at hl 0 rfl) ?_
    cases h
    refine W.widen (k := 0) (n := 0) (Nat.le_of_ble_eq_true rfl) (Nat.le_of_ble_eq_true rfl) ?_
    exact RT 30 ls H locs _ d_Mod_floor_30 (Or.inr (Or.inl ⟨rfl, _, rfl⟩)) rfl (hP.sub [0] rfl) (hD.sub [0] (by decide) rfl) hS
  · have h := pu_t hc h
    refine lv_iconst (v := 0) hx hb d_Mod_floor_17 (by decide) ?_
    cases h
    refine W.widen (k := 0) (n := 0) (Nat.le_of_ble_eq_true rfl) (Nat.le_of_ble_eq_true rfl) ?_
    exact RT 18 ls H locs _ d_Mod_floor_18 (Or.inr (Or.inl ⟨rfl, _, rfl⟩)) rfl (hP.sub [0] rfl) (hD.sub [0] (by decide) rfl) hS

noncomputable def p_Mod_bound (a1 : Int32) (a2 : Int32) (o_thrown : Int32) (o_width : Int32) (o_height : Int32) (o_repeats : Int32) (o_wide : Int32) (o_floor : Int32) (o_across : Int32) (o_down : Int32) (o_sum : Int64) (o_many : Int64) (o_above : Int64) (o_below : Int64) (o_marked : Int32) (o_spots : Int32) (o_days : Int32) (o_former_n : Nat) (o_former_f : Nat → Int32) (o_lows_n : Nat) (o_lows_f : Nat → Int32) (o_highs_n : Nat) (o_highs_f : Nat → Int32) : Option (Int32 × Int32) :=
  (p_Mod_isCell a1 a2 o_thrown o_width o_height o_repeats o_wide o_floor o_across o_down o_sum o_many o_above o_below o_marked o_spots o_days).bind (fun (v1 : Int32) => (p_Mod_goes v1 1 1 o_thrown o_width o_height o_repeats o_wide o_floor o_across o_down o_sum o_many o_above o_below o_marked o_spots o_days).bind (fun ((v2, u2_0) : Int32 × Int32) => (if v2 = 0 then some (0, u2_0) else (p_Mod_boundOf ((24 * a2) + a1) u2_0 o_width o_height o_repeats o_wide o_floor o_across o_down o_sum o_many o_above o_below o_marked o_spots o_days o_former_n o_former_f o_lows_n o_lows_f o_highs_n o_highs_f).bind (fun (v3 : Int32) => some (v3, u2_0)))))
set_option maxHeartbeats 4000000 in
set_option maxRecDepth 100000 in
theorem c_Mod_bound (l : Launch) (dC : Nat → ClassId) (dI : Nat → Nat → Nat) (cI cJ cZ : ClassId) (q_o q_o_former q_o_later q_o_charts q_o_lows q_o_highs q_o_firsts q_o_changes q_o_dates q_o_kept : Nat) (a1 : Int32) (a2 : Int32) (o_thrown : Int32) (o_width : Int32) (o_height : Int32) (o_repeats : Int32) (o_wide : Int32) (o_floor : Int32) (o_across : Int32) (o_down : Int32) (o_sum : Int64) (o_many : Int64) (o_above : Int64) (o_below : Int64) (o_marked : Int32) (o_spots : Int32) (o_days : Int32) (o_former_n : Nat) (o_former_f : Nat → Int32) (o_lows_n : Nat) (o_lows_f : Nat → Int32) (o_highs_n : Nat) (o_highs_f : Nat → Int32) (r0 : Int32) (r1 : Int32) (h : p_Mod_bound a1 a2 o_thrown o_width o_height o_repeats o_wide o_floor o_across o_down o_sum o_many o_above o_below o_marked o_spots o_days o_former_n o_former_f o_lows_n o_lows_f o_highs_n o_highs_f = some (r0, r1)) : ct l y_Mod_bound w_Mod_bound rm_Mod_bound (dC, dI) [(cI, .int), (cJ, .long), (cZ, .boolean)] [.ref q_o, .int a1, .int a2] [(q_o, .inr (7, [.int o_thrown, .int o_width, .int o_height, .ref q_o_former, .ref q_o_later, .ref q_o_charts, .ref q_o_lows, .ref q_o_highs, .int o_repeats, .int o_wide, .int o_floor, .int o_across, .int o_down, .long o_sum, .long o_many, .long o_above, .long o_below, .ref q_o_firsts, .ref q_o_changes, .int o_marked, .int o_spots, .int o_days, .ref q_o_dates, .ref q_o_kept])), (q_o_former, .inl (cI, o_former_n, .inl o_former_f)), (q_o_lows, .inl (cI, o_lows_n, .inl o_lows_f)), (q_o_highs, .inl (cI, o_highs_n, .inl o_highs_f))] (fun w => w = [(q_o, .inr (7, [.int r1, .int o_width, .int o_height, .ref q_o_former, .ref q_o_later, .ref q_o_charts, .ref q_o_lows, .ref q_o_highs, .int o_repeats, .int o_wide, .int o_floor, .int o_across, .int o_down, .long o_sum, .long o_many, .long o_above, .long o_below, .ref q_o_firsts, .ref q_o_changes, .int o_marked, .int o_spots, .int o_days, .ref q_o_dates, .ref q_o_kept])), (q_o_former, .inl (cI, o_former_n, .inl o_former_f)), (q_o_lows, .inl (cI, o_lows_n, .inl o_lows_f)), (q_o_highs, .inl (cI, o_highs_n, .inl o_highs_f))]) (some (.int r0)) := by
  refine ct_of (cc := b_Mod_bound) (maxL := 3) (ret := (some .int)) (lv := [(0, .ref q_o), (1, .int a1), (2, .int a2)]) (by decide) rfl rfl rfl ?_
  intro p e s m args below meth c A Q H locs hx hb hml hown hts hin hA hK hN hP hD hS RT ls hl
  unfold p_Mod_bound at h
  refine lv_aload_n hx hb d_Mod_bound_0 rfl (lv_at hl 0 rfl) ?_
  refine lv_aload_n hx hb d_Mod_bound_1 rfl (lv_at hl 0 rfl) ?_
  refine lv_iload_n hx hb d_Mod_bound_2 rfl (lv_at hl 1 rfl) ?_
  refine lv_iload_n hx hb d_Mod_bound_3 rfl (lv_at hl 2 rfl) ?_
  obtain ⟨v1, hu1, h⟩ := pu_bd h
  refine cc_V (As := [.int a1, .int a2]) (rest := [.ref q_o]) ⟨hx, hb, hml, hown, hts⟩ (c_Mod_isCell l dC dI cI cJ cZ q_o q_o_former q_o_later q_o_charts q_o_lows q_o_highs q_o_firsts q_o_changes q_o_dates q_o_kept a1 a2 o_thrown o_width o_height o_repeats o_wide o_floor o_across o_down o_sum o_many o_above o_below o_marked o_spots o_days v1 hu1) (cwV 2 hts (gV k_690 k_692 kp_15 k_9 k_693 rfl) rfl rfl rfl hdV_Mod_isCell ⟨Nat.le_of_ble_eq_true rfl, Nat.le_of_ble_eq_true rfl⟩) hK hN hP hD hS hA [0] [1, 2, 3] (w0 := [(q_o, .inr (7, [.int o_thrown, .int o_width, .int o_height, .ref q_o_former, .ref q_o_later, .ref q_o_charts, .ref q_o_lows, .ref q_o_highs, .int o_repeats, .int o_wide, .int o_floor, .int o_across, .int o_down, .long o_sum, .long o_many, .long o_above, .long o_below, .ref q_o_firsts, .ref q_o_changes, .int o_marked, .int o_spots, .int o_days, .ref q_o_dates, .ref q_o_kept]))]) (wr := [(q_o_former, .inl (cI, o_former_n, .inl o_former_f)), (q_o_lows, .inl (cI, o_lows_n, .inl o_lows_f)), (q_o_highs, .inl (cI, o_highs_n, .inl o_highs_f))]) rfl rfl (by decide) (by decide) (by decide) 7 rfl rfl rfl hl.1 rfl (Nat.le_of_ble_eq_true rfl) d_Mod_bound_4 ⟨Nat.le_of_ble_eq_true rfl, Nat.le_of_ble_eq_true rfl⟩ (fun w1 H locs hw1 hP hD hS => ?_)
  subst hw1
  have hP : va_P (dC, dI) vwCl [(q_o_former, .inl (cI, o_former_n, .inl o_former_f)), (q_o_lows, .inl (cI, o_lows_n, .inl o_lows_f)), (q_o_highs, .inl (cI, o_highs_n, .inl o_highs_f)), (q_o, .inr (7, [.int o_thrown, .int o_width, .int o_height, .ref q_o_former, .ref q_o_later, .ref q_o_charts, .ref q_o_lows, .ref q_o_highs, .int o_repeats, .int o_wide, .int o_floor, .int o_across, .int o_down, .long o_sum, .long o_many, .long o_above, .long o_below, .ref q_o_firsts, .ref q_o_changes, .int o_marked, .int o_spots, .int o_days, .ref q_o_dates, .ref q_o_kept]))] H := hP
  have hD : va_D A [(q_o_former, .inl (cI, o_former_n, .inl o_former_f)), (q_o_lows, .inl (cI, o_lows_n, .inl o_lows_f)), (q_o_highs, .inl (cI, o_highs_n, .inl o_highs_f)), (q_o, .inr (7, [.int o_thrown, .int o_width, .int o_height, .ref q_o_former, .ref q_o_later, .ref q_o_charts, .ref q_o_lows, .ref q_o_highs, .int o_repeats, .int o_wide, .int o_floor, .int o_across, .int o_down, .long o_sum, .long o_many, .long o_above, .long o_below, .ref q_o_firsts, .ref q_o_changes, .int o_marked, .int o_spots, .int o_days, .ref q_o_dates, .ref q_o_kept]))] := hD
  refine lv_iconst (v := 1) hx hb d_Mod_bound_7 (by decide) ?_
  refine lv_iconst (v := 1) hx hb d_Mod_bound_8 (by decide) ?_
  obtain ⟨⟨v2, u2_0⟩, hu2, h⟩ := pu_bd h
  try dsimp only at h
  refine cc_V (As := [.int v1, .int 1, .int 1]) (rest := []) ⟨hx, hb, hml, hown, hts⟩ (c_Mod_goes l dC dI cI cJ cZ q_o q_o_former q_o_later q_o_charts q_o_lows q_o_highs q_o_firsts q_o_changes q_o_dates q_o_kept v1 1 1 o_thrown o_width o_height o_repeats o_wide o_floor o_across o_down o_sum o_many o_above o_below o_marked o_spots o_days v2 u2_0 hu2) (cwV 3 hts (gV k_697 k_699 kp_16 k_9 k_700 rfl) rfl rfl rfl hdV_Mod_goes ⟨Nat.le_of_ble_eq_true rfl, Nat.le_of_ble_eq_true rfl⟩) hK hN hP hD hS hA [3] [0, 1, 2] (w0 := [(q_o, .inr (7, [.int o_thrown, .int o_width, .int o_height, .ref q_o_former, .ref q_o_later, .ref q_o_charts, .ref q_o_lows, .ref q_o_highs, .int o_repeats, .int o_wide, .int o_floor, .int o_across, .int o_down, .long o_sum, .long o_many, .long o_above, .long o_below, .ref q_o_firsts, .ref q_o_changes, .int o_marked, .int o_spots, .int o_days, .ref q_o_dates, .ref q_o_kept]))]) (wr := [(q_o_former, .inl (cI, o_former_n, .inl o_former_f)), (q_o_lows, .inl (cI, o_lows_n, .inl o_lows_f)), (q_o_highs, .inl (cI, o_highs_n, .inl o_highs_f))]) rfl rfl (by decide) (by decide) (by decide) 7 rfl rfl rfl hl.1 rfl (Nat.le_of_ble_eq_true rfl) d_Mod_bound_9 ⟨Nat.le_of_ble_eq_true rfl, Nat.le_of_ble_eq_true rfl⟩ (fun w1 H locs hw1 hP hD hS => ?_)
  subst hw1
  have hP : va_P (dC, dI) vwCl [(q_o_former, .inl (cI, o_former_n, .inl o_former_f)), (q_o_lows, .inl (cI, o_lows_n, .inl o_lows_f)), (q_o_highs, .inl (cI, o_highs_n, .inl o_highs_f)), (q_o, .inr (7, [.int u2_0, .int o_width, .int o_height, .ref q_o_former, .ref q_o_later, .ref q_o_charts, .ref q_o_lows, .ref q_o_highs, .int o_repeats, .int o_wide, .int o_floor, .int o_across, .int o_down, .long o_sum, .long o_many, .long o_above, .long o_below, .ref q_o_firsts, .ref q_o_changes, .int o_marked, .int o_spots, .int o_days, .ref q_o_dates, .ref q_o_kept]))] H := hP
  have hD : va_D A [(q_o_former, .inl (cI, o_former_n, .inl o_former_f)), (q_o_lows, .inl (cI, o_lows_n, .inl o_lows_f)), (q_o_highs, .inl (cI, o_highs_n, .inl o_highs_f)), (q_o, .inr (7, [.int u2_0, .int o_width, .int o_height, .ref q_o_former, .ref q_o_later, .ref q_o_charts, .ref q_o_lows, .ref q_o_highs, .int o_repeats, .int o_wide, .int o_floor, .int o_across, .int o_down, .long o_sum, .long o_many, .long o_above, .long o_below, .ref q_o_firsts, .ref q_o_changes, .int o_marked, .int o_spots, .int o_days, .ref q_o_dates, .ref q_o_kept]))] := hD
  refine lv_if_eq (tgt := 28) hx hb d_Mod_bound_12 (by decide) (fun hc => ?_) (fun hc => ?_)
  · have h := pu_t hc h
    refine lv_iconst (v := 0) hx hb d_Mod_bound_28 (by decide) ?_
    cases h
    refine W.widen (k := 0) (n := 0) (Nat.le_of_ble_eq_true rfl) (Nat.le_of_ble_eq_true rfl) ?_
    exact RT 29 ls H locs _ d_Mod_bound_29 (Or.inr (Or.inl ⟨rfl, _, rfl⟩)) rfl (hP.sub [3, 0, 1, 2] rfl) (hD.sub [3, 0, 1, 2] (by decide) rfl) hS
  · have h := pu_f hc h
    refine lv_aload_n hx hb d_Mod_bound_15 rfl (lv_at hl 0 rfl) ?_
    refine lv_bipush (v := 24) hx hb d_Mod_bound_16 (by decide) ?_
    refine lv_iload_n hx hb d_Mod_bound_18 rfl (lv_at hl 2 rfl) ?_
    refine lv_imul hx hb d_Mod_bound_19 ?_
    refine lv_iload_n hx hb d_Mod_bound_20 rfl (lv_at hl 1 rfl) ?_
    refine lv_iadd hx hb d_Mod_bound_21 ?_
    obtain ⟨v3, hu3, h⟩ := pu_bd h
    refine cc_V (As := [.int ((24 * a2) + a1)]) (rest := []) ⟨hx, hb, hml, hown, hts⟩ (c_Mod_boundOf l dC dI cI cJ cZ q_o q_o_former q_o_later q_o_charts q_o_lows q_o_highs q_o_firsts q_o_changes q_o_dates q_o_kept ((24 * a2) + a1) u2_0 o_width o_height o_repeats o_wide o_floor o_across o_down o_sum o_many o_above o_below o_marked o_spots o_days o_former_n o_former_f o_lows_n o_lows_f o_highs_n o_highs_f v3 hu3) (cwV 1 hts (gV k_748 k_750 kp_22 k_9 k_751 rfl) rfl rfl rfl hdV_Mod_boundOf ⟨Nat.le_of_ble_eq_true rfl, Nat.le_of_ble_eq_true rfl⟩) hK hN hP hD hS hA [3, 0, 1, 2] [] (w0 := [(q_o, .inr (7, [.int u2_0, .int o_width, .int o_height, .ref q_o_former, .ref q_o_later, .ref q_o_charts, .ref q_o_lows, .ref q_o_highs, .int o_repeats, .int o_wide, .int o_floor, .int o_across, .int o_down, .long o_sum, .long o_many, .long o_above, .long o_below, .ref q_o_firsts, .ref q_o_changes, .int o_marked, .int o_spots, .int o_days, .ref q_o_dates, .ref q_o_kept])), (q_o_former, .inl (cI, o_former_n, .inl o_former_f)), (q_o_lows, .inl (cI, o_lows_n, .inl o_lows_f)), (q_o_highs, .inl (cI, o_highs_n, .inl o_highs_f))]) (wr := []) rfl rfl (by decide) (by decide) (by decide) 7 rfl rfl rfl hl.1 rfl (Nat.le_of_ble_eq_true rfl) d_Mod_bound_22 ⟨Nat.le_of_ble_eq_true rfl, Nat.le_of_ble_eq_true rfl⟩ (fun w1 H locs hw1 hP hD hS => ?_)
    subst hw1
    have hP : va_P (dC, dI) vwCl [(q_o, .inr (7, [.int u2_0, .int o_width, .int o_height, .ref q_o_former, .ref q_o_later, .ref q_o_charts, .ref q_o_lows, .ref q_o_highs, .int o_repeats, .int o_wide, .int o_floor, .int o_across, .int o_down, .long o_sum, .long o_many, .long o_above, .long o_below, .ref q_o_firsts, .ref q_o_changes, .int o_marked, .int o_spots, .int o_days, .ref q_o_dates, .ref q_o_kept])), (q_o_former, .inl (cI, o_former_n, .inl o_former_f)), (q_o_lows, .inl (cI, o_lows_n, .inl o_lows_f)), (q_o_highs, .inl (cI, o_highs_n, .inl o_highs_f))] H := hP
    have hD : va_D A [(q_o, .inr (7, [.int u2_0, .int o_width, .int o_height, .ref q_o_former, .ref q_o_later, .ref q_o_charts, .ref q_o_lows, .ref q_o_highs, .int o_repeats, .int o_wide, .int o_floor, .int o_across, .int o_down, .long o_sum, .long o_many, .long o_above, .long o_below, .ref q_o_firsts, .ref q_o_changes, .int o_marked, .int o_spots, .int o_days, .ref q_o_dates, .ref q_o_kept])), (q_o_former, .inl (cI, o_former_n, .inl o_former_f)), (q_o_lows, .inl (cI, o_lows_n, .inl o_lows_f)), (q_o_highs, .inl (cI, o_highs_n, .inl o_highs_f))] := hD
    refine lv_goto (tgt := 29) hx hb d_Mod_bound_25 (by decide) ?_
    cases h
    refine W.widen (k := 0) (n := 0) (Nat.le_of_ble_eq_true rfl) (Nat.le_of_ble_eq_true rfl) ?_
    exact RT 29 ls H locs _ d_Mod_bound_29 (Or.inr (Or.inl ⟨rfl, _, rfl⟩)) rfl (hP.sub [0, 1, 2, 3] rfl) (hD.sub [0, 1, 2, 3] (by decide) rfl) hS

noncomputable def p_Mod_changeOf (a1 : Int32) (o_thrown : Int32) (o_width : Int32) (o_height : Int32) (o_repeats : Int32) (o_wide : Int32) (o_floor : Int32) (o_across : Int32) (o_down : Int32) (o_sum : Int64) (o_many : Int64) (o_above : Int64) (o_below : Int64) (o_marked : Int32) (o_spots : Int32) (o_days : Int32) (o_former_n : Nat) (o_former_f : Nat → Int32) (o_later_n : Nat) (o_later_f : Nat → Int32) : Option (Int32) :=
  (p_Mod_under a1 o_across o_down o_thrown o_width o_height o_repeats o_wide o_floor o_across o_down o_sum o_many o_above o_below o_marked o_spots o_days).bind (fun (v1 : Int32) => (if v1 = (-1) then some 0 else pu_gd (vp_in v1 o_later_n) (pu_gd (¬ ((2 * o_below) : Int64) = 0) (pu_gd (vp_in a1 o_former_n) ((p_Mod_apart (o_former_f a1.toNatClampNeg) (((((2 * ((o_later_f v1.toNatClampNeg).toInt64)) * o_above) + o_below) / (2 * o_below)).toInt32)).bind (fun (v2 : Int32) => some v2))))))
set_option maxHeartbeats 4000000 in
set_option maxRecDepth 100000 in
theorem c_Mod_changeOf (l : Launch) (dC : Nat → ClassId) (dI : Nat → Nat → Nat) (cI cJ cZ : ClassId) (q_o q_o_former q_o_later q_o_charts q_o_lows q_o_highs q_o_firsts q_o_changes q_o_dates q_o_kept : Nat) (a1 : Int32) (o_thrown : Int32) (o_width : Int32) (o_height : Int32) (o_repeats : Int32) (o_wide : Int32) (o_floor : Int32) (o_across : Int32) (o_down : Int32) (o_sum : Int64) (o_many : Int64) (o_above : Int64) (o_below : Int64) (o_marked : Int32) (o_spots : Int32) (o_days : Int32) (o_former_n : Nat) (o_former_f : Nat → Int32) (o_later_n : Nat) (o_later_f : Nat → Int32) (r0 : Int32) (h : p_Mod_changeOf a1 o_thrown o_width o_height o_repeats o_wide o_floor o_across o_down o_sum o_many o_above o_below o_marked o_spots o_days o_former_n o_former_f o_later_n o_later_f = some r0) : ct l y_Mod_changeOf w_Mod_changeOf rm_Mod_changeOf (dC, dI) [(cI, .int), (cJ, .long), (cZ, .boolean)] [.ref q_o, .int a1] [(q_o, .inr (7, [.int o_thrown, .int o_width, .int o_height, .ref q_o_former, .ref q_o_later, .ref q_o_charts, .ref q_o_lows, .ref q_o_highs, .int o_repeats, .int o_wide, .int o_floor, .int o_across, .int o_down, .long o_sum, .long o_many, .long o_above, .long o_below, .ref q_o_firsts, .ref q_o_changes, .int o_marked, .int o_spots, .int o_days, .ref q_o_dates, .ref q_o_kept])), (q_o_former, .inl (cI, o_former_n, .inl o_former_f)), (q_o_later, .inl (cI, o_later_n, .inl o_later_f))] (fun w => w = [(q_o, .inr (7, [.int o_thrown, .int o_width, .int o_height, .ref q_o_former, .ref q_o_later, .ref q_o_charts, .ref q_o_lows, .ref q_o_highs, .int o_repeats, .int o_wide, .int o_floor, .int o_across, .int o_down, .long o_sum, .long o_many, .long o_above, .long o_below, .ref q_o_firsts, .ref q_o_changes, .int o_marked, .int o_spots, .int o_days, .ref q_o_dates, .ref q_o_kept])), (q_o_former, .inl (cI, o_former_n, .inl o_former_f)), (q_o_later, .inl (cI, o_later_n, .inl o_later_f))]) (some (.int r0)) := by
  refine ct_of (cc := b_Mod_changeOf) (maxL := 5) (ret := (some .int)) (lv := [(0, .ref q_o), (1, .int a1)]) (by decide) rfl rfl rfl ?_
  intro p e s m args below meth c A Q H locs hx hb hml hown hts hin hA hK hN hP hD hS RT ls hl
  unfold p_Mod_changeOf at h
  refine lv_aload_n hx hb d_Mod_changeOf_0 rfl (lv_at hl 0 rfl) ?_
  refine lv_iload_n hx hb d_Mod_changeOf_1 rfl (lv_at hl 1 rfl) ?_
  refine lv_aload_n hx hb d_Mod_changeOf_2 rfl (lv_at hl 0 rfl) ?_
  refine va_get (D := (dC, dI)) (ci := 7) (v := .int o_across) (C := R_Mod) (T := F_Mod) (N := 24) hx hb hts i_Mod hown hK hP 0 rfl rfl 11 (by decide) (hts _ k_619) (fun _ h9 => h9) rfl d_Mod_changeOf_3 ?_
  refine lv_aload_n hx hb d_Mod_changeOf_6 rfl (lv_at hl 0 rfl) ?_
  refine va_get (D := (dC, dI)) (ci := 7) (v := .int o_down) (C := R_Mod) (T := F_Mod) (N := 24) hx hb hts i_Mod hown hK hP 0 rfl rfl 12 (by decide) (hts _ k_620) (fun _ h9 => h9) rfl d_Mod_changeOf_7 ?_
  obtain ⟨v1, hu1, h⟩ := pu_bd h
  refine cc_V (As := [.int a1, .int o_across, .int o_down]) (rest := []) ⟨hx, hb, hml, hown, hts⟩ (c_Mod_under l dC dI cI cJ cZ q_o q_o_former q_o_later q_o_charts q_o_lows q_o_highs q_o_firsts q_o_changes q_o_dates q_o_kept a1 o_across o_down o_thrown o_width o_height o_repeats o_wide o_floor o_across o_down o_sum o_many o_above o_below o_marked o_spots o_days v1 hu1) (cwV 3 hts (gV k_710 k_712 kp_18 k_9 k_713 rfl) rfl rfl rfl hdV_Mod_under ⟨Nat.le_of_ble_eq_true rfl, Nat.le_of_ble_eq_true rfl⟩) hK hN hP hD hS hA [0] [1, 2] (w0 := [(q_o, .inr (7, [.int o_thrown, .int o_width, .int o_height, .ref q_o_former, .ref q_o_later, .ref q_o_charts, .ref q_o_lows, .ref q_o_highs, .int o_repeats, .int o_wide, .int o_floor, .int o_across, .int o_down, .long o_sum, .long o_many, .long o_above, .long o_below, .ref q_o_firsts, .ref q_o_changes, .int o_marked, .int o_spots, .int o_days, .ref q_o_dates, .ref q_o_kept]))]) (wr := [(q_o_former, .inl (cI, o_former_n, .inl o_former_f)), (q_o_later, .inl (cI, o_later_n, .inl o_later_f))]) rfl rfl (by decide) (by decide) (by decide) 7 rfl rfl rfl hl.1 rfl (Nat.le_of_ble_eq_true rfl) d_Mod_changeOf_10 ⟨Nat.le_of_ble_eq_true rfl, Nat.le_of_ble_eq_true rfl⟩ (fun w1 H locs hw1 hP hD hS => ?_)
  subst hw1
  have hP : va_P (dC, dI) vwCl [(q_o_former, .inl (cI, o_former_n, .inl o_former_f)), (q_o_later, .inl (cI, o_later_n, .inl o_later_f)), (q_o, .inr (7, [.int o_thrown, .int o_width, .int o_height, .ref q_o_former, .ref q_o_later, .ref q_o_charts, .ref q_o_lows, .ref q_o_highs, .int o_repeats, .int o_wide, .int o_floor, .int o_across, .int o_down, .long o_sum, .long o_many, .long o_above, .long o_below, .ref q_o_firsts, .ref q_o_changes, .int o_marked, .int o_spots, .int o_days, .ref q_o_dates, .ref q_o_kept]))] H := hP
  have hD : va_D A [(q_o_former, .inl (cI, o_former_n, .inl o_former_f)), (q_o_later, .inl (cI, o_later_n, .inl o_later_f)), (q_o, .inr (7, [.int o_thrown, .int o_width, .int o_height, .ref q_o_former, .ref q_o_later, .ref q_o_charts, .ref q_o_lows, .ref q_o_highs, .int o_repeats, .int o_wide, .int o_floor, .int o_across, .int o_down, .long o_sum, .long o_many, .long o_above, .long o_below, .ref q_o_firsts, .ref q_o_changes, .int o_marked, .int o_spots, .int o_days, .ref q_o_dates, .ref q_o_kept]))] := hD
  refine lv_istore_n (lv' := [(2, .int v1), (0, .ref q_o), (1, .int a1)]) hx hb d_Mod_changeOf_13 rfl hl (by decide) rfl (fun ls hl => ?_)
  refine lv_iload_n hx hb d_Mod_changeOf_14 rfl (lv_at hl 0 rfl) ?_
  refine lv_iconst (v := (-1)) hx hb d_Mod_changeOf_15 (by decide) ?_
  refine lv_icmp_ne (tgt := 21) hx hb d_Mod_changeOf_16 (by decide) (fun hc => ?_) (fun hc => ?_)
  · have h := pu_f hc h
    refine lv_ldc2 (v := 2) hx hb hown (hts _ k_768) d_Mod_changeOf_21 ?_
    refine lv_aload_n hx hb d_Mod_changeOf_24 rfl (lv_at hl 1 rfl) ?_
    refine va_get (D := (dC, dI)) (ci := 7) (v := .ref q_o_later) (C := R_Mod) (T := F_Mod) (N := 24) hx hb hts i_Mod hown hK hP 2 rfl rfl 4 (by decide) (hts _ k_612) (fun _ h9 => h9) rfl d_Mod_changeOf_25 ?_
    refine lv_iload_n hx hb d_Mod_changeOf_28 rfl (lv_at hl 0 rfl) ?_
    obtain ⟨hg, h⟩ := pu_g h
    refine va_iald hx hb hK hP 1 0 rfl rfl hg d_Mod_changeOf_29 ?_
    refine lv_i2l hx hb d_Mod_changeOf_30 rfl ?_
    refine lv_lmul hx hb d_Mod_changeOf_31 ?_
    refine lv_aload_n hx hb d_Mod_changeOf_32 rfl (lv_at hl 1 rfl) ?_
    refine va_get (D := (dC, dI)) (ci := 7) (v := .long o_above) (C := R_Mod) (T := F_Mod) (N := 24) hx hb hts i_Mod hown hK hP 2 rfl rfl 15 (by decide) (hts _ k_623) (fun _ h9 => h9) rfl d_Mod_changeOf_33 ?_
    refine lv_lmul hx hb d_Mod_changeOf_36 ?_
    refine lv_aload_n hx hb d_Mod_changeOf_37 rfl (lv_at hl 1 rfl) ?_
    refine va_get (D := (dC, dI)) (ci := 7) (v := .long o_below) (C := R_Mod) (T := F_Mod) (N := 24) hx hb hts i_Mod hown hK hP 2 rfl rfl 16 (by decide) (hts _ k_624) (fun _ h9 => h9) rfl d_Mod_changeOf_38 ?_
    refine lv_ladd hx hb d_Mod_changeOf_41 ?_
    refine lv_ldc2 (v := 2) hx hb hown (hts _ k_768) d_Mod_changeOf_42 ?_
    refine lv_aload_n hx hb d_Mod_changeOf_45 rfl (lv_at hl 1 rfl) ?_
    refine va_get (D := (dC, dI)) (ci := 7) (v := .long o_below) (C := R_Mod) (T := F_Mod) (N := 24) hx hb hts i_Mod hown hK hP 2 rfl rfl 16 (by decide) (hts _ k_624) (fun _ h9 => h9) rfl d_Mod_changeOf_46 ?_
    refine lv_lmul hx hb d_Mod_changeOf_49 ?_
    obtain ⟨hg, h⟩ := pu_g h
    refine lv_ldiv hx hb d_Mod_changeOf_50 hg ?_
    refine lv_lstore_n (lv' := [(3, .long ((((2 * ((o_later_f v1.toNatClampNeg).toInt64)) * o_above) + o_below) / (2 * o_below))), (2, .int v1), (0, .ref q_o), (1, .int a1)]) hx hb d_Mod_changeOf_51 rfl hl (by decide) rfl (fun ls hl => ?_)
    refine lv_aload_n hx hb d_Mod_changeOf_52 rfl (lv_at hl 2 rfl) ?_
    refine va_get (D := (dC, dI)) (ci := 7) (v := .ref q_o_former) (C := R_Mod) (T := F_Mod) (N := 24) hx hb hts i_Mod hown hK hP 2 rfl rfl 3 (by decide) (hts _ k_611) (fun _ h9 => h9) rfl d_Mod_changeOf_53 ?_
    refine lv_iload_n hx hb d_Mod_changeOf_56 rfl (lv_at hl 3 rfl) ?_
    obtain ⟨hg, h⟩ := pu_g h
    refine va_iald hx hb hK hP 0 0 rfl rfl hg d_Mod_changeOf_57 ?_
    refine lv_lload_n hx hb d_Mod_changeOf_58 rfl (lv_at hl 0 rfl) ?_
    refine lv_l2i hx hb d_Mod_changeOf_59 rfl ?_
    obtain ⟨v2, hu2, h⟩ := pu_bd h
    refine cc_S (As := [.int (o_former_f a1.toNatClampNeg), .int (((((2 * ((o_later_f v1.toNatClampNeg).toInt64)) * o_above) + o_below) / (2 * o_below)).toInt32)]) (rest := []) ⟨hx, hb, hml, hown, hts⟩ (c_Mod_apart l dC dI cI cJ cZ (o_former_f a1.toNatClampNeg) (((((2 * ((o_later_f v1.toNatClampNeg).toInt64)) * o_above) + o_below) / (2 * o_below)).toInt32) v2 hu2) (cwS 2 hts (gS k_718 k_719 k_9 k_720 rfl) rfl rfl rfl hdV_Mod_apart ⟨Nat.le_of_ble_eq_true rfl, Nat.le_of_ble_eq_true rfl⟩) hK hN hP hD hS hA [] [0, 1, 2] (w0 := []) (wr := [(q_o_former, .inl (cI, o_former_n, .inl o_former_f)), (q_o_later, .inl (cI, o_later_n, .inl o_later_f)), (q_o, .inr (7, [.int o_thrown, .int o_width, .int o_height, .ref q_o_former, .ref q_o_later, .ref q_o_charts, .ref q_o_lows, .ref q_o_highs, .int o_repeats, .int o_wide, .int o_floor, .int o_across, .int o_down, .long o_sum, .long o_many, .long o_above, .long o_below, .ref q_o_firsts, .ref q_o_changes, .int o_marked, .int o_spots, .int o_days, .ref q_o_dates, .ref q_o_kept]))]) rfl rfl (by decide) (by decide) (by decide) rfl hl.1 rfl (Nat.le_of_ble_eq_true rfl) d_Mod_changeOf_60 ⟨Nat.le_of_ble_eq_true rfl, Nat.le_of_ble_eq_true rfl⟩ (fun w1 H locs hw1 hP hD hS => ?_)
    subst hw1
    have hP : va_P (dC, dI) vwCl [(q_o_former, .inl (cI, o_former_n, .inl o_former_f)), (q_o_later, .inl (cI, o_later_n, .inl o_later_f)), (q_o, .inr (7, [.int o_thrown, .int o_width, .int o_height, .ref q_o_former, .ref q_o_later, .ref q_o_charts, .ref q_o_lows, .ref q_o_highs, .int o_repeats, .int o_wide, .int o_floor, .int o_across, .int o_down, .long o_sum, .long o_many, .long o_above, .long o_below, .ref q_o_firsts, .ref q_o_changes, .int o_marked, .int o_spots, .int o_days, .ref q_o_dates, .ref q_o_kept]))] H := hP
    have hD : va_D A [(q_o_former, .inl (cI, o_former_n, .inl o_former_f)), (q_o_later, .inl (cI, o_later_n, .inl o_later_f)), (q_o, .inr (7, [.int o_thrown, .int o_width, .int o_height, .ref q_o_former, .ref q_o_later, .ref q_o_charts, .ref q_o_lows, .ref q_o_highs, .int o_repeats, .int o_wide, .int o_floor, .int o_across, .int o_down, .long o_sum, .long o_many, .long o_above, .long o_below, .ref q_o_firsts, .ref q_o_changes, .int o_marked, .int o_spots, .int o_days, .ref q_o_dates, .ref q_o_kept]))] := hD
    cases h
    refine W.widen (k := 0) (n := 0) (Nat.le_of_ble_eq_true rfl) (Nat.le_of_ble_eq_true rfl) ?_
    exact RT 63 ls H locs _ d_Mod_changeOf_63 (Or.inr (Or.inl ⟨rfl, _, rfl⟩)) rfl (hP.sub [2, 0, 1] rfl) (hD.sub [2, 0, 1] (by decide) rfl) hS
  · have h := pu_t hc h
    refine lv_iconst (v := 0) hx hb d_Mod_changeOf_19 (by decide) ?_
    cases h
    refine W.widen (k := 0) (n := 0) (Nat.le_of_ble_eq_true rfl) (Nat.le_of_ble_eq_true rfl) ?_
    exact RT 20 ls H locs _ d_Mod_changeOf_20 (Or.inr (Or.inl ⟨rfl, _, rfl⟩)) rfl (hP.sub [2, 0, 1] rfl) (hD.sub [2, 0, 1] (by decide) rfl) hS

noncomputable def p_Mod_change (a1 : Int32) (a2 : Int32) (o_thrown : Int32) (o_width : Int32) (o_height : Int32) (o_repeats : Int32) (o_wide : Int32) (o_floor : Int32) (o_across : Int32) (o_down : Int32) (o_sum : Int64) (o_many : Int64) (o_above : Int64) (o_below : Int64) (o_marked : Int32) (o_spots : Int32) (o_days : Int32) (o_former_n : Nat) (o_former_f : Nat → Int32) (o_later_n : Nat) (o_later_f : Nat → Int32) (o_charts_n : Nat) (o_charts_f : Nat → Int32) : Option (Int32 × Int32 × Int64 × Int64) :=
  (p_Mod_isCell a1 a2 o_thrown o_width o_height o_repeats o_wide o_floor o_across o_down o_sum o_many o_above o_below o_marked o_spots o_days).bind (fun (v1 : Int32) => (p_Mod_goes v1 1 1 o_thrown o_width o_height o_repeats o_wide o_floor o_across o_down o_sum o_many o_above o_below o_marked o_spots o_days).bind (fun ((v2, u2_0) : Int32 × Int32) => (if v2 = 0 then some (0, u2_0, o_above, o_below) else (p_Mod_weigh u2_0 o_width o_height o_repeats o_wide o_floor o_across o_down o_sum o_many o_above o_below o_marked o_spots o_days o_former_n o_former_f o_later_n o_later_f o_charts_n o_charts_f).bind (fun ((u3_0, u3_1) : Int64 × Int64) => (p_Mod_changeOf ((24 * a2) + a1) u2_0 o_width o_height o_repeats o_wide o_floor o_across o_down o_sum o_many u3_0 u3_1 o_marked o_spots o_days o_former_n o_former_f o_later_n o_later_f).bind (fun (v4 : Int32) => some (v4, u2_0, u3_0, u3_1))))))
set_option maxHeartbeats 4000000 in
set_option maxRecDepth 100000 in
theorem c_Mod_change (l : Launch) (dC : Nat → ClassId) (dI : Nat → Nat → Nat) (cI cJ cZ : ClassId) (q_o q_o_former q_o_later q_o_charts q_o_lows q_o_highs q_o_firsts q_o_changes q_o_dates q_o_kept : Nat) (a1 : Int32) (a2 : Int32) (o_thrown : Int32) (o_width : Int32) (o_height : Int32) (o_repeats : Int32) (o_wide : Int32) (o_floor : Int32) (o_across : Int32) (o_down : Int32) (o_sum : Int64) (o_many : Int64) (o_above : Int64) (o_below : Int64) (o_marked : Int32) (o_spots : Int32) (o_days : Int32) (o_former_n : Nat) (o_former_f : Nat → Int32) (o_later_n : Nat) (o_later_f : Nat → Int32) (o_charts_n : Nat) (o_charts_f : Nat → Int32) (r0 : Int32) (r1 : Int32) (r2 : Int64) (r3 : Int64) (h : p_Mod_change a1 a2 o_thrown o_width o_height o_repeats o_wide o_floor o_across o_down o_sum o_many o_above o_below o_marked o_spots o_days o_former_n o_former_f o_later_n o_later_f o_charts_n o_charts_f = some (r0, r1, r2, r3)) : ct l y_Mod_change w_Mod_change rm_Mod_change (dC, dI) [(cI, .int), (cJ, .long), (cZ, .boolean)] [.ref q_o, .int a1, .int a2] [(q_o, .inr (7, [.int o_thrown, .int o_width, .int o_height, .ref q_o_former, .ref q_o_later, .ref q_o_charts, .ref q_o_lows, .ref q_o_highs, .int o_repeats, .int o_wide, .int o_floor, .int o_across, .int o_down, .long o_sum, .long o_many, .long o_above, .long o_below, .ref q_o_firsts, .ref q_o_changes, .int o_marked, .int o_spots, .int o_days, .ref q_o_dates, .ref q_o_kept])), (q_o_former, .inl (cI, o_former_n, .inl o_former_f)), (q_o_later, .inl (cI, o_later_n, .inl o_later_f)), (q_o_charts, .inl (cZ, o_charts_n, .inl o_charts_f))] (fun w => w = [(q_o, .inr (7, [.int r1, .int o_width, .int o_height, .ref q_o_former, .ref q_o_later, .ref q_o_charts, .ref q_o_lows, .ref q_o_highs, .int o_repeats, .int o_wide, .int o_floor, .int o_across, .int o_down, .long o_sum, .long o_many, .long r2, .long r3, .ref q_o_firsts, .ref q_o_changes, .int o_marked, .int o_spots, .int o_days, .ref q_o_dates, .ref q_o_kept])), (q_o_former, .inl (cI, o_former_n, .inl o_former_f)), (q_o_later, .inl (cI, o_later_n, .inl o_later_f)), (q_o_charts, .inl (cZ, o_charts_n, .inl o_charts_f))]) (some (.int r0)) := by
  refine ct_of (cc := b_Mod_change) (maxL := 3) (ret := (some .int)) (lv := [(0, .ref q_o), (1, .int a1), (2, .int a2)]) (by decide) rfl rfl rfl ?_
  intro p e s m args below meth c A Q H locs hx hb hml hown hts hin hA hK hN hP hD hS RT ls hl
  unfold p_Mod_change at h
  refine lv_aload_n hx hb d_Mod_change_0 rfl (lv_at hl 0 rfl) ?_
  refine lv_aload_n hx hb d_Mod_change_1 rfl (lv_at hl 0 rfl) ?_
  refine lv_iload_n hx hb d_Mod_change_2 rfl (lv_at hl 1 rfl) ?_
  refine lv_iload_n hx hb d_Mod_change_3 rfl (lv_at hl 2 rfl) ?_
  obtain ⟨v1, hu1, h⟩ := pu_bd h
  refine cc_V (As := [.int a1, .int a2]) (rest := [.ref q_o]) ⟨hx, hb, hml, hown, hts⟩ (c_Mod_isCell l dC dI cI cJ cZ q_o q_o_former q_o_later q_o_charts q_o_lows q_o_highs q_o_firsts q_o_changes q_o_dates q_o_kept a1 a2 o_thrown o_width o_height o_repeats o_wide o_floor o_across o_down o_sum o_many o_above o_below o_marked o_spots o_days v1 hu1) (cwV 2 hts (gV k_690 k_692 kp_15 k_9 k_693 rfl) rfl rfl rfl hdV_Mod_isCell ⟨Nat.le_of_ble_eq_true rfl, Nat.le_of_ble_eq_true rfl⟩) hK hN hP hD hS hA [0] [1, 2, 3] (w0 := [(q_o, .inr (7, [.int o_thrown, .int o_width, .int o_height, .ref q_o_former, .ref q_o_later, .ref q_o_charts, .ref q_o_lows, .ref q_o_highs, .int o_repeats, .int o_wide, .int o_floor, .int o_across, .int o_down, .long o_sum, .long o_many, .long o_above, .long o_below, .ref q_o_firsts, .ref q_o_changes, .int o_marked, .int o_spots, .int o_days, .ref q_o_dates, .ref q_o_kept]))]) (wr := [(q_o_former, .inl (cI, o_former_n, .inl o_former_f)), (q_o_later, .inl (cI, o_later_n, .inl o_later_f)), (q_o_charts, .inl (cZ, o_charts_n, .inl o_charts_f))]) rfl rfl (by decide) (by decide) (by decide) 7 rfl rfl rfl hl.1 rfl (Nat.le_of_ble_eq_true rfl) d_Mod_change_4 ⟨Nat.le_of_ble_eq_true rfl, Nat.le_of_ble_eq_true rfl⟩ (fun w1 H locs hw1 hP hD hS => ?_)
  subst hw1
  have hP : va_P (dC, dI) vwCl [(q_o_former, .inl (cI, o_former_n, .inl o_former_f)), (q_o_later, .inl (cI, o_later_n, .inl o_later_f)), (q_o_charts, .inl (cZ, o_charts_n, .inl o_charts_f)), (q_o, .inr (7, [.int o_thrown, .int o_width, .int o_height, .ref q_o_former, .ref q_o_later, .ref q_o_charts, .ref q_o_lows, .ref q_o_highs, .int o_repeats, .int o_wide, .int o_floor, .int o_across, .int o_down, .long o_sum, .long o_many, .long o_above, .long o_below, .ref q_o_firsts, .ref q_o_changes, .int o_marked, .int o_spots, .int o_days, .ref q_o_dates, .ref q_o_kept]))] H := hP
  have hD : va_D A [(q_o_former, .inl (cI, o_former_n, .inl o_former_f)), (q_o_later, .inl (cI, o_later_n, .inl o_later_f)), (q_o_charts, .inl (cZ, o_charts_n, .inl o_charts_f)), (q_o, .inr (7, [.int o_thrown, .int o_width, .int o_height, .ref q_o_former, .ref q_o_later, .ref q_o_charts, .ref q_o_lows, .ref q_o_highs, .int o_repeats, .int o_wide, .int o_floor, .int o_across, .int o_down, .long o_sum, .long o_many, .long o_above, .long o_below, .ref q_o_firsts, .ref q_o_changes, .int o_marked, .int o_spots, .int o_days, .ref q_o_dates, .ref q_o_kept]))] := hD
  refine lv_iconst (v := 1) hx hb d_Mod_change_7 (by decide) ?_
  refine lv_iconst (v := 1) hx hb d_Mod_change_8 (by decide) ?_
  obtain ⟨⟨v2, u2_0⟩, hu2, h⟩ := pu_bd h
  try dsimp only at h
  refine cc_V (As := [.int v1, .int 1, .int 1]) (rest := []) ⟨hx, hb, hml, hown, hts⟩ (c_Mod_goes l dC dI cI cJ cZ q_o q_o_former q_o_later q_o_charts q_o_lows q_o_highs q_o_firsts q_o_changes q_o_dates q_o_kept v1 1 1 o_thrown o_width o_height o_repeats o_wide o_floor o_across o_down o_sum o_many o_above o_below o_marked o_spots o_days v2 u2_0 hu2) (cwV 3 hts (gV k_697 k_699 kp_16 k_9 k_700 rfl) rfl rfl rfl hdV_Mod_goes ⟨Nat.le_of_ble_eq_true rfl, Nat.le_of_ble_eq_true rfl⟩) hK hN hP hD hS hA [3] [0, 1, 2] (w0 := [(q_o, .inr (7, [.int o_thrown, .int o_width, .int o_height, .ref q_o_former, .ref q_o_later, .ref q_o_charts, .ref q_o_lows, .ref q_o_highs, .int o_repeats, .int o_wide, .int o_floor, .int o_across, .int o_down, .long o_sum, .long o_many, .long o_above, .long o_below, .ref q_o_firsts, .ref q_o_changes, .int o_marked, .int o_spots, .int o_days, .ref q_o_dates, .ref q_o_kept]))]) (wr := [(q_o_former, .inl (cI, o_former_n, .inl o_former_f)), (q_o_later, .inl (cI, o_later_n, .inl o_later_f)), (q_o_charts, .inl (cZ, o_charts_n, .inl o_charts_f))]) rfl rfl (by decide) (by decide) (by decide) 7 rfl rfl rfl hl.1 rfl (Nat.le_of_ble_eq_true rfl) d_Mod_change_9 ⟨Nat.le_of_ble_eq_true rfl, Nat.le_of_ble_eq_true rfl⟩ (fun w1 H locs hw1 hP hD hS => ?_)
  subst hw1
  have hP : va_P (dC, dI) vwCl [(q_o_former, .inl (cI, o_former_n, .inl o_former_f)), (q_o_later, .inl (cI, o_later_n, .inl o_later_f)), (q_o_charts, .inl (cZ, o_charts_n, .inl o_charts_f)), (q_o, .inr (7, [.int u2_0, .int o_width, .int o_height, .ref q_o_former, .ref q_o_later, .ref q_o_charts, .ref q_o_lows, .ref q_o_highs, .int o_repeats, .int o_wide, .int o_floor, .int o_across, .int o_down, .long o_sum, .long o_many, .long o_above, .long o_below, .ref q_o_firsts, .ref q_o_changes, .int o_marked, .int o_spots, .int o_days, .ref q_o_dates, .ref q_o_kept]))] H := hP
  have hD : va_D A [(q_o_former, .inl (cI, o_former_n, .inl o_former_f)), (q_o_later, .inl (cI, o_later_n, .inl o_later_f)), (q_o_charts, .inl (cZ, o_charts_n, .inl o_charts_f)), (q_o, .inr (7, [.int u2_0, .int o_width, .int o_height, .ref q_o_former, .ref q_o_later, .ref q_o_charts, .ref q_o_lows, .ref q_o_highs, .int o_repeats, .int o_wide, .int o_floor, .int o_across, .int o_down, .long o_sum, .long o_many, .long o_above, .long o_below, .ref q_o_firsts, .ref q_o_changes, .int o_marked, .int o_spots, .int o_days, .ref q_o_dates, .ref q_o_kept]))] := hD
  refine lv_if_ne (tgt := 17) hx hb d_Mod_change_12 (by decide) (fun hc => ?_) (fun hc => ?_)
  · have h := pu_f hc h
    refine lv_aload_n hx hb d_Mod_change_17 rfl (lv_at hl 0 rfl) ?_
    obtain ⟨⟨u3_0, u3_1⟩, hu3, h⟩ := pu_bd h
    try dsimp only at h
    refine cc_V (As := []) (rest := []) ⟨hx, hb, hml, hown, hts⟩ (c_Mod_weigh l dC dI cI cJ cZ q_o q_o_former q_o_later q_o_charts q_o_lows q_o_highs q_o_firsts q_o_changes q_o_dates q_o_kept u2_0 o_width o_height o_repeats o_wide o_floor o_across o_down o_sum o_many o_above o_below o_marked o_spots o_days o_former_n o_former_f o_later_n o_later_f o_charts_n o_charts_f u3_0 u3_1 hu3) (cwV 0 hts (gV k_737 k_739 kp_21 k_9 k_740 rfl) rfl rfl rfl hdV_Mod_weigh ⟨Nat.le_of_ble_eq_true rfl, Nat.le_of_ble_eq_true rfl⟩) hK hN hP hD hS hA [3, 0, 1, 2] [] (w0 := [(q_o, .inr (7, [.int u2_0, .int o_width, .int o_height, .ref q_o_former, .ref q_o_later, .ref q_o_charts, .ref q_o_lows, .ref q_o_highs, .int o_repeats, .int o_wide, .int o_floor, .int o_across, .int o_down, .long o_sum, .long o_many, .long o_above, .long o_below, .ref q_o_firsts, .ref q_o_changes, .int o_marked, .int o_spots, .int o_days, .ref q_o_dates, .ref q_o_kept])), (q_o_former, .inl (cI, o_former_n, .inl o_former_f)), (q_o_later, .inl (cI, o_later_n, .inl o_later_f)), (q_o_charts, .inl (cZ, o_charts_n, .inl o_charts_f))]) (wr := []) rfl rfl (by decide) (by decide) (by decide) 7 rfl rfl rfl hl.1 rfl (Nat.le_of_ble_eq_true rfl) d_Mod_change_18 ⟨Nat.le_of_ble_eq_true rfl, Nat.le_of_ble_eq_true rfl⟩ (fun w1 H locs hw1 hP hD hS => ?_)
    subst hw1
    have hP : va_P (dC, dI) vwCl [(q_o, .inr (7, [.int u2_0, .int o_width, .int o_height, .ref q_o_former, .ref q_o_later, .ref q_o_charts, .ref q_o_lows, .ref q_o_highs, .int o_repeats, .int o_wide, .int o_floor, .int o_across, .int o_down, .long o_sum, .long o_many, .long u3_0, .long u3_1, .ref q_o_firsts, .ref q_o_changes, .int o_marked, .int o_spots, .int o_days, .ref q_o_dates, .ref q_o_kept])), (q_o_former, .inl (cI, o_former_n, .inl o_former_f)), (q_o_later, .inl (cI, o_later_n, .inl o_later_f)), (q_o_charts, .inl (cZ, o_charts_n, .inl o_charts_f))] H := hP
    have hD : va_D A [(q_o, .inr (7, [.int u2_0, .int o_width, .int o_height, .ref q_o_former, .ref q_o_later, .ref q_o_charts, .ref q_o_lows, .ref q_o_highs, .int o_repeats, .int o_wide, .int o_floor, .int o_across, .int o_down, .long o_sum, .long o_many, .long u3_0, .long u3_1, .ref q_o_firsts, .ref q_o_changes, .int o_marked, .int o_spots, .int o_days, .ref q_o_dates, .ref q_o_kept])), (q_o_former, .inl (cI, o_former_n, .inl o_former_f)), (q_o_later, .inl (cI, o_later_n, .inl o_later_f)), (q_o_charts, .inl (cZ, o_charts_n, .inl o_charts_f))] := hD
    refine lv_aload_n hx hb d_Mod_change_21 rfl (lv_at hl 0 rfl) ?_
    refine lv_bipush (v := 24) hx hb d_Mod_change_22 (by decide) ?_
    refine lv_iload_n hx hb d_Mod_change_24 rfl (lv_at hl 2 rfl) ?_
    refine lv_imul hx hb d_Mod_change_25 ?_
    refine lv_iload_n hx hb d_Mod_change_26 rfl (lv_at hl 1 rfl) ?_
    refine lv_iadd hx hb d_Mod_change_27 ?_
    obtain ⟨v4, hu4, h⟩ := pu_bd h
    refine cc_V (As := [.int ((24 * a2) + a1)]) (rest := []) ⟨hx, hb, hml, hown, hts⟩ (c_Mod_changeOf l dC dI cI cJ cZ q_o q_o_former q_o_later q_o_charts q_o_lows q_o_highs q_o_firsts q_o_changes q_o_dates q_o_kept ((24 * a2) + a1) u2_0 o_width o_height o_repeats o_wide o_floor o_across o_down o_sum o_many u3_0 u3_1 o_marked o_spots o_days o_former_n o_former_f o_later_n o_later_f v4 hu4) (cwV 1 hts (gV k_764 k_766 kp_23 k_9 k_767 rfl) rfl rfl rfl hdV_Mod_changeOf ⟨Nat.le_of_ble_eq_true rfl, Nat.le_of_ble_eq_true rfl⟩) hK hN hP hD hS hA [0, 1, 2] [3] (w0 := [(q_o, .inr (7, [.int u2_0, .int o_width, .int o_height, .ref q_o_former, .ref q_o_later, .ref q_o_charts, .ref q_o_lows, .ref q_o_highs, .int o_repeats, .int o_wide, .int o_floor, .int o_across, .int o_down, .long o_sum, .long o_many, .long u3_0, .long u3_1, .ref q_o_firsts, .ref q_o_changes, .int o_marked, .int o_spots, .int o_days, .ref q_o_dates, .ref q_o_kept])), (q_o_former, .inl (cI, o_former_n, .inl o_former_f)), (q_o_later, .inl (cI, o_later_n, .inl o_later_f))]) (wr := [(q_o_charts, .inl (cZ, o_charts_n, .inl o_charts_f))]) rfl rfl (by decide) (by decide) (by decide) 7 rfl rfl rfl hl.1 rfl (Nat.le_of_ble_eq_true rfl) d_Mod_change_28 ⟨Nat.le_of_ble_eq_true rfl, Nat.le_of_ble_eq_true rfl⟩ (fun w1 H locs hw1 hP hD hS => ?_)
    subst hw1
    have hP : va_P (dC, dI) vwCl [(q_o_charts, .inl (cZ, o_charts_n, .inl o_charts_f)), (q_o, .inr (7, [.int u2_0, .int o_width, .int o_height, .ref q_o_former, .ref q_o_later, .ref q_o_charts, .ref q_o_lows, .ref q_o_highs, .int o_repeats, .int o_wide, .int o_floor, .int o_across, .int o_down, .long o_sum, .long o_many, .long u3_0, .long u3_1, .ref q_o_firsts, .ref q_o_changes, .int o_marked, .int o_spots, .int o_days, .ref q_o_dates, .ref q_o_kept])), (q_o_former, .inl (cI, o_former_n, .inl o_former_f)), (q_o_later, .inl (cI, o_later_n, .inl o_later_f))] H := hP
    have hD : va_D A [(q_o_charts, .inl (cZ, o_charts_n, .inl o_charts_f)), (q_o, .inr (7, [.int u2_0, .int o_width, .int o_height, .ref q_o_former, .ref q_o_later, .ref q_o_charts, .ref q_o_lows, .ref q_o_highs, .int o_repeats, .int o_wide, .int o_floor, .int o_across, .int o_down, .long o_sum, .long o_many, .long u3_0, .long u3_1, .ref q_o_firsts, .ref q_o_changes, .int o_marked, .int o_spots, .int o_days, .ref q_o_dates, .ref q_o_kept])), (q_o_former, .inl (cI, o_former_n, .inl o_former_f)), (q_o_later, .inl (cI, o_later_n, .inl o_later_f))] := hD
    cases h
    refine W.widen (k := 0) (n := 0) (Nat.le_of_ble_eq_true rfl) (Nat.le_of_ble_eq_true rfl) ?_
    exact RT 31 ls H locs _ d_Mod_change_31 (Or.inr (Or.inl ⟨rfl, _, rfl⟩)) rfl (hP.sub [1, 2, 3, 0] rfl) (hD.sub [1, 2, 3, 0] (by decide) rfl) hS
  · have h := pu_t hc h
    refine lv_iconst (v := 0) hx hb d_Mod_change_15 (by decide) ?_
    cases h
    refine W.widen (k := 0) (n := 0) (Nat.le_of_ble_eq_true rfl) (Nat.le_of_ble_eq_true rfl) ?_
    exact RT 16 ls H locs _ d_Mod_change_16 (Or.inr (Or.inl ⟨rfl, _, rfl⟩)) rfl (hP.sub [3, 0, 1, 2] rfl) (hD.sub [3, 0, 1, 2] (by decide) rfl) hS

noncomputable def p_Mod_neighbour (a1 : Int32) (a2 : Int32) (o_thrown : Int32) (o_width : Int32) (o_height : Int32) (o_repeats : Int32) (o_wide : Int32) (o_floor : Int32) (o_across : Int32) (o_down : Int32) (o_sum : Int64) (o_many : Int64) (o_above : Int64) (o_below : Int64) (o_marked : Int32) (o_spots : Int32) (o_days : Int32) : Option (Int32) :=
  pu_gd (¬ (24 : Int32) = 0) (((if a2 = 1 then some 1 else (if a2 = 3 then some (-1) else some 0))).bind (fun (j1_2 : Int32) => pu_gd (¬ (24 : Int32) = 0) (((if a2 = 0 then some (-1) else (if a2 = 2 then some 1 else some 0))).bind (fun (j3_4 : Int32) => (p_Mod_isCell ((a1 - a1 / 24 * 24) + j1_2) ((a1 / 24) + j3_4) o_thrown o_width o_height o_repeats o_wide o_floor o_across o_down o_sum o_many o_above o_below o_marked o_spots o_days).bind (fun (v5 : Int32) => (if v5 = 0 then some (-1) else some ((24 * ((a1 / 24) + j3_4)) + ((a1 - a1 / 24 * 24) + j1_2))))))))
set_option maxHeartbeats 4000000 in
set_option maxRecDepth 100000 in
theorem c_Mod_neighbour (l : Launch) (dC : Nat → ClassId) (dI : Nat → Nat → Nat) (cI cJ cZ : ClassId) (q_o q_o_former q_o_later q_o_charts q_o_lows q_o_highs q_o_firsts q_o_changes q_o_dates q_o_kept : Nat) (a1 : Int32) (a2 : Int32) (o_thrown : Int32) (o_width : Int32) (o_height : Int32) (o_repeats : Int32) (o_wide : Int32) (o_floor : Int32) (o_across : Int32) (o_down : Int32) (o_sum : Int64) (o_many : Int64) (o_above : Int64) (o_below : Int64) (o_marked : Int32) (o_spots : Int32) (o_days : Int32) (r0 : Int32) (h : p_Mod_neighbour a1 a2 o_thrown o_width o_height o_repeats o_wide o_floor o_across o_down o_sum o_many o_above o_below o_marked o_spots o_days = some r0) : ct l y_Mod_neighbour w_Mod_neighbour rm_Mod_neighbour (dC, dI) [(cI, .int), (cJ, .long), (cZ, .boolean)] [.ref q_o, .int a1, .int a2] [(q_o, .inr (7, [.int o_thrown, .int o_width, .int o_height, .ref q_o_former, .ref q_o_later, .ref q_o_charts, .ref q_o_lows, .ref q_o_highs, .int o_repeats, .int o_wide, .int o_floor, .int o_across, .int o_down, .long o_sum, .long o_many, .long o_above, .long o_below, .ref q_o_firsts, .ref q_o_changes, .int o_marked, .int o_spots, .int o_days, .ref q_o_dates, .ref q_o_kept]))] (fun w => w = [(q_o, .inr (7, [.int o_thrown, .int o_width, .int o_height, .ref q_o_former, .ref q_o_later, .ref q_o_charts, .ref q_o_lows, .ref q_o_highs, .int o_repeats, .int o_wide, .int o_floor, .int o_across, .int o_down, .long o_sum, .long o_many, .long o_above, .long o_below, .ref q_o_firsts, .ref q_o_changes, .int o_marked, .int o_spots, .int o_days, .ref q_o_dates, .ref q_o_kept]))]) (some (.int r0)) := by
  refine ct_of (cc := b_Mod_neighbour) (maxL := 5) (ret := (some .int)) (lv := [(0, .ref q_o), (1, .int a1), (2, .int a2)]) (by decide) rfl rfl rfl ?_
  intro p e s m args below meth c A Q H locs hx hb hml hown hts hin hA hK hN hP hD hS RT ls hl
  unfold p_Mod_neighbour at h
  refine lv_iload_n hx hb d_Mod_neighbour_0 rfl (lv_at hl 1 rfl) ?_
  refine lv_bipush (v := 24) hx hb d_Mod_neighbour_1 (by decide) ?_
  obtain ⟨hg, h⟩ := pu_g h
  refine lv_irem hx hb d_Mod_neighbour_3 hg ?_
  refine lv_iload_n hx hb d_Mod_neighbour_4 rfl (lv_at hl 2 rfl) ?_
  refine lv_iconst (v := 1) hx hb d_Mod_neighbour_5 (by decide) ?_
  obtain ⟨j_1, hj_1, hx_1⟩ := pu_bd h
  have J_1 : ∀ (j1_2 : Int32) (H : Heap) (locs : List Loc) (ls : Array Slot), j_1 = j1_2 → lv_has ls 5 [(0, .ref q_o), (1, .int a1), (2, .int a2)] → va_P (dC, dI) vwCl [(q_o, .inr (7, [.int o_thrown, .int o_width, .int o_height, .ref q_o_former, .ref q_o_later, .ref q_o_charts, .ref q_o_lows, .ref q_o_highs, .int o_repeats, .int o_wide, .int o_floor, .int o_across, .int o_down, .long o_sum, .long o_many, .long o_above, .long o_below, .ref q_o_firsts, .ref q_o_changes, .int o_marked, .int o_spots, .int o_days, .ref q_o_dates, .ref q_o_kept]))] H → va_D A [(q_o, .inr (7, [.int o_thrown, .int o_width, .int o_height, .ref q_o_former, .ref q_o_later, .ref q_o_charts, .ref q_o_lows, .ref q_o_highs, .int o_repeats, .int o_wide, .int o_floor, .int o_across, .int o_down, .long o_sum, .long o_many, .long o_above, .long o_below, .ref q_o_firsts, .ref q_o_changes, .int o_marked, .int o_spots, .int o_days, .ref q_o_dates, .ref q_o_kept]))] → va_S A s.heap H locs → W p l e rm_Mod_neighbour s m args below meth c H locs 0 0 Q (F0 m 23 ls [.int j1_2, .int (a1 - a1 / 24 * 24)]) := by
    intro j1_2 H locs ls he hl hP hD hS
    have h := hx_1
    rw [he] at h
    try dsimp only at h
    refine lv_iadd hx hb d_Mod_neighbour_23 ?_
    refine lv_istore_n (lv' := [(3, .int ((a1 - a1 / 24 * 24) + j1_2)), (0, .ref q_o), (1, .int a1), (2, .int a2)]) hx hb d_Mod_neighbour_24 rfl hl (by decide) rfl (fun ls hl => ?_)
    refine lv_iload_n hx hb d_Mod_neighbour_25 rfl (lv_at hl 2 rfl) ?_
    refine lv_bipush (v := 24) hx hb d_Mod_neighbour_26 (by decide) ?_
    obtain ⟨hg, h⟩ := pu_g h
    refine lv_idiv hx hb d_Mod_neighbour_28 hg ?_
    refine lv_iload_n hx hb d_Mod_neighbour_29 rfl (lv_at hl 3 rfl) ?_
    obtain ⟨j_3, hj_3, hx_3⟩ := pu_bd h
    have J_3 : ∀ (j3_4 : Int32) (H : Heap) (locs : List Loc) (ls : Array Slot), j_3 = j3_4 → lv_has ls 5 [(3, .int ((a1 - a1 / 24 * 24) + j1_2)), (0, .ref q_o), (1, .int a1), (2, .int a2)] → va_P (dC, dI) vwCl [(q_o, .inr (7, [.int o_thrown, .int o_width, .int o_height, .ref q_o_former, .ref q_o_later, .ref q_o_charts, .ref q_o_lows, .ref q_o_highs, .int o_repeats, .int o_wide, .int o_floor, .int o_across, .int o_down, .long o_sum, .long o_many, .long o_above, .long o_below, .ref q_o_firsts, .ref q_o_changes, .int o_marked, .int o_spots, .int o_days, .ref q_o_dates, .ref q_o_kept]))] H → va_D A [(q_o, .inr (7, [.int o_thrown, .int o_width, .int o_height, .ref q_o_former, .ref q_o_later, .ref q_o_charts, .ref q_o_lows, .ref q_o_highs, .int o_repeats, .int o_wide, .int o_floor, .int o_across, .int o_down, .long o_sum, .long o_many, .long o_above, .long o_below, .ref q_o_firsts, .ref q_o_changes, .int o_marked, .int o_spots, .int o_days, .ref q_o_dates, .ref q_o_kept]))] → va_S A s.heap H locs → W p l e rm_Mod_neighbour s m args below meth c H locs 0 0 Q (F0 m 47 ls [.int j3_4, .int (a1 / 24)]) := by
      intro j3_4 H locs ls he hl hP hD hS
      have h := hx_3
      rw [he] at h
      try dsimp only at h
      refine lv_iadd hx hb d_Mod_neighbour_47 ?_
      refine lv_istore (lv' := [(4, .int ((a1 / 24) + j3_4)), (3, .int ((a1 - a1 / 24 * 24) + j1_2)), (0, .ref q_o), (1, .int a1), (2, .int a2)]) hx hb d_Mod_neighbour_48 hl (by decide) rfl (fun ls hl => ?_)
      refine lv_aload_n hx hb d_Mod_neighbour_50 rfl (lv_at hl 2 rfl) ?_
      refine lv_iload_n hx hb d_Mod_neighbour_51 rfl (lv_at hl 1 rfl) ?_
      refine lv_iload hx hb d_Mod_neighbour_52 (lv_at hl 0 rfl) ?_
      obtain ⟨v5, hu5, h⟩ := pu_bd h
      refine cc_V (As := [.int ((a1 - a1 / 24 * 24) + j1_2), .int ((a1 / 24) + j3_4)]) (rest := []) ⟨hx, hb, hml, hown, hts⟩ (c_Mod_isCell l dC dI cI cJ cZ q_o q_o_former q_o_later q_o_charts q_o_lows q_o_highs q_o_firsts q_o_changes q_o_dates q_o_kept ((a1 - a1 / 24 * 24) + j1_2) ((a1 / 24) + j3_4) o_thrown o_width o_height o_repeats o_wide o_floor o_across o_down o_sum o_many o_above o_below o_marked o_spots o_days v5 hu5) (cwV 2 hts (gV k_690 k_692 kp_15 k_9 k_693 rfl) rfl rfl rfl hdV_Mod_isCell ⟨Nat.le_of_ble_eq_true rfl, Nat.le_of_ble_eq_true rfl⟩) hK hN hP hD hS hA [0] [] (w0 := [(q_o, .inr (7, [.int o_thrown, .int o_width, .int o_height, .ref q_o_former, .ref q_o_later, .ref q_o_charts, .ref q_o_lows, .ref q_o_highs, .int o_repeats, .int o_wide, .int o_floor, .int o_across, .int o_down, .long o_sum, .long o_many, .long o_above, .long o_below, .ref q_o_firsts, .ref q_o_changes, .int o_marked, .int o_spots, .int o_days, .ref q_o_dates, .ref q_o_kept]))]) (wr := []) rfl rfl (by decide) (by decide) (by decide) 7 rfl rfl rfl hl.1 rfl (Nat.le_of_ble_eq_true rfl) d_Mod_neighbour_54 ⟨Nat.le_of_ble_eq_true rfl, Nat.le_of_ble_eq_true rfl⟩ (fun w1 H locs hw1 hP hD hS => ?_)
      subst hw1
      have hP : va_P (dC, dI) vwCl [(q_o, .inr (7, [.int o_thrown, .int o_width, .int o_height, .ref q_o_former, .ref q_o_later, .ref q_o_charts, .ref q_o_lows, .ref q_o_highs, .int o_repeats, .int o_wide, .int o_floor, .int o_across, .int o_down, .long o_sum, .long o_many, .long o_above, .long o_below, .ref q_o_firsts, .ref q_o_changes, .int o_marked, .int o_spots, .int o_days, .ref q_o_dates, .ref q_o_kept]))] H := hP
      have hD : va_D A [(q_o, .inr (7, [.int o_thrown, .int o_width, .int o_height, .ref q_o_former, .ref q_o_later, .ref q_o_charts, .ref q_o_lows, .ref q_o_highs, .int o_repeats, .int o_wide, .int o_floor, .int o_across, .int o_down, .long o_sum, .long o_many, .long o_above, .long o_below, .ref q_o_firsts, .ref q_o_changes, .int o_marked, .int o_spots, .int o_days, .ref q_o_dates, .ref q_o_kept]))] := hD
      refine lv_if_eq (tgt := 70) hx hb d_Mod_neighbour_57 (by decide) (fun hc => ?_) (fun hc => ?_)
      · have h := pu_t hc h
        refine lv_iconst (v := (-1)) hx hb d_Mod_neighbour_70 (by decide) ?_
        cases h
        refine W.widen (k := 0) (n := 0) (Nat.le_of_ble_eq_true rfl) (Nat.le_of_ble_eq_true rfl) ?_
        exact RT 71 ls H locs _ d_Mod_neighbour_71 (Or.inr (Or.inl ⟨rfl, _, rfl⟩)) rfl (hP.sub [0] rfl) (hD.sub [0] (by decide) rfl) hS
      · have h := pu_f hc h
        refine lv_bipush (v := 24) hx hb d_Mod_neighbour_60 (by decide) ?_
        refine lv_iload hx hb d_Mod_neighbour_62 (lv_at hl 0 rfl) ?_
        refine lv_imul hx hb d_Mod_neighbour_64 ?_
        refine lv_iload_n hx hb d_Mod_neighbour_65 rfl (lv_at hl 1 rfl) ?_
        refine lv_iadd hx hb d_Mod_neighbour_66 ?_
        refine lv_goto (tgt := 71) hx hb d_Mod_neighbour_67 (by decide) ?_
        cases h
        refine W.widen (k := 0) (n := 0) (Nat.le_of_ble_eq_true rfl) (Nat.le_of_ble_eq_true rfl) ?_
        exact RT 71 ls H locs _ d_Mod_neighbour_71 (Or.inr (Or.inl ⟨rfl, _, rfl⟩)) rfl (hP.sub [0] rfl) (hD.sub [0] (by decide) rfl) hS
    have h := hj_3
    refine lv_if_ne (tgt := 37) hx hb d_Mod_neighbour_30 (by decide) (fun hc => ?_) (fun hc => ?_)
    · have h := pu_f hc h
      refine lv_iload_n hx hb d_Mod_neighbour_37 rfl (lv_at hl 3 rfl) ?_
      refine lv_iconst (v := 2) hx hb d_Mod_neighbour_38 (by decide) ?_
      refine lv_icmp_ne (tgt := 46) hx hb d_Mod_neighbour_39 (by decide) (fun hc => ?_) (fun hc => ?_)
      · have h := pu_f hc h
        refine lv_iconst (v := 0) hx hb d_Mod_neighbour_46 (by decide) ?_
        exact J_3 0 H locs ls (Option.some.inj h).symm (lv_sub hl [0, 1, 2, 3] rfl) (hP.sub [0] rfl) (hD.sub [0] (by decide) rfl) hS
      · have h := pu_t hc h
        refine lv_iconst (v := 1) hx hb d_Mod_neighbour_42 (by decide) ?_
        refine lv_goto (tgt := 47) hx hb d_Mod_neighbour_43 (by decide) ?_
        exact J_3 1 H locs ls (Option.some.inj h).symm (lv_sub hl [0, 1, 2, 3] rfl) (hP.sub [0] rfl) (hD.sub [0] (by decide) rfl) hS
    · have h := pu_t hc h
      refine lv_iconst (v := (-1)) hx hb d_Mod_neighbour_33 (by decide) ?_
      refine lv_goto (tgt := 47) hx hb d_Mod_neighbour_34 (by decide) ?_
      exact J_3 (-1) H locs ls (Option.some.inj h).symm (lv_sub hl [0, 1, 2, 3] rfl) (hP.sub [0] rfl) (hD.sub [0] (by decide) rfl) hS
  have h := hj_1
  refine lv_icmp_ne (tgt := 13) hx hb d_Mod_neighbour_6 (by decide) (fun hc => ?_) (fun hc => ?_)
  · have h := pu_f hc h
    refine lv_iload_n hx hb d_Mod_neighbour_13 rfl (lv_at hl 2 rfl) ?_
    refine lv_iconst (v := 3) hx hb d_Mod_neighbour_14 (by decide) ?_
    refine lv_icmp_ne (tgt := 22) hx hb d_Mod_neighbour_15 (by decide) (fun hc => ?_) (fun hc => ?_)
    · have h := pu_f hc h
      refine lv_iconst (v := 0) hx hb d_Mod_neighbour_22 (by decide) ?_
      exact J_1 0 H locs ls (Option.some.inj h).symm (lv_sub hl [0, 1, 2] rfl) (hP.sub [0] rfl) (hD.sub [0] (by decide) rfl) hS
    · have h := pu_t hc h
      refine lv_iconst (v := (-1)) hx hb d_Mod_neighbour_18 (by decide) ?_
      refine lv_goto (tgt := 23) hx hb d_Mod_neighbour_19 (by decide) ?_
      exact J_1 (-1) H locs ls (Option.some.inj h).symm (lv_sub hl [0, 1, 2] rfl) (hP.sub [0] rfl) (hD.sub [0] (by decide) rfl) hS
  · have h := pu_t hc h
    refine lv_iconst (v := 1) hx hb d_Mod_neighbour_9 (by decide) ?_
    refine lv_goto (tgt := 23) hx hb d_Mod_neighbour_10 (by decide) ?_
    exact J_1 1 H locs ls (Option.some.inj h).symm (lv_sub hl [0, 1, 2] rfl) (hP.sub [0] rfl) (hD.sub [0] (by decide) rfl) hS

noncomputable def p_Mod_lowest_L1 (a1 : Int32) (o_thrown : Int32) (o_width : Int32) (o_height : Int32) (o_repeats : Int32) (o_wide : Int32) (o_floor : Int32) (o_across : Int32) (o_down : Int32) (o_sum : Int64) (o_many : Int64) (o_above : Int64) (o_below : Int64) (o_marked : Int32) (o_spots : Int32) (o_days : Int32) (o_firsts_n : Nat) (o_firsts_f : Nat → Int32) : (Int32 × Int32) → Option ((Int32 × Int32) ⊕ (Int32 × Int32)) := fun ((x2_2, x3_3) : Int32 × Int32) =>
  (if 4 ≤ x3_3 then some (.inr (x2_2, x3_3)) else (p_Mod_neighbour a1 x3_3 o_thrown o_width o_height o_repeats o_wide o_floor o_across o_down o_sum o_many o_above o_below o_marked o_spots o_days).bind (fun (v4 : Int32) => (if v4 = (-1) then some (.inl (x2_2, (x3_3 + 1))) else pu_gd (vp_in v4 o_firsts_n) ((if (o_firsts_f v4.toNatClampNeg) = (-1) then some (.inl (x2_2, (x3_3 + 1))) else pu_gd (vp_in v4 o_firsts_n) ((if x2_2 ≤ (o_firsts_f v4.toNatClampNeg) then some (.inl (x2_2, (x3_3 + 1))) else pu_gd (vp_in v4 o_firsts_n) (some (.inl ((o_firsts_f v4.toNatClampNeg), (x3_3 + 1)))))))))))
noncomputable def p_Mod_lowest (a1 : Int32) (o_thrown : Int32) (o_width : Int32) (o_height : Int32) (o_repeats : Int32) (o_wide : Int32) (o_floor : Int32) (o_across : Int32) (o_down : Int32) (o_sum : Int64) (o_many : Int64) (o_above : Int64) (o_below : Int64) (o_marked : Int32) (o_spots : Int32) (o_days : Int32) (o_firsts_n : Nat) (o_firsts_f : Nat → Int32) : Option (Int32) :=
  pu_gd (vp_in a1 o_firsts_n) ((pu_loop (p_Mod_lowest_L1 a1 o_thrown o_width o_height o_repeats o_wide o_floor o_across o_down o_sum o_many o_above o_below o_marked o_spots o_days o_firsts_n o_firsts_f) ((o_firsts_f a1.toNatClampNeg), 0)).bind (fun ((y2_5, y3_6) : Int32 × Int32) => some y2_5))
set_option maxHeartbeats 4000000 in
set_option maxRecDepth 100000 in
theorem c_Mod_lowest (l : Launch) (dC : Nat → ClassId) (dI : Nat → Nat → Nat) (cI cJ cZ : ClassId) (q_o q_o_former q_o_later q_o_charts q_o_lows q_o_highs q_o_firsts q_o_changes q_o_dates q_o_kept : Nat) (a1 : Int32) (o_thrown : Int32) (o_width : Int32) (o_height : Int32) (o_repeats : Int32) (o_wide : Int32) (o_floor : Int32) (o_across : Int32) (o_down : Int32) (o_sum : Int64) (o_many : Int64) (o_above : Int64) (o_below : Int64) (o_marked : Int32) (o_spots : Int32) (o_days : Int32) (o_firsts_n : Nat) (o_firsts_f : Nat → Int32) (r0 : Int32) (h : p_Mod_lowest a1 o_thrown o_width o_height o_repeats o_wide o_floor o_across o_down o_sum o_many o_above o_below o_marked o_spots o_days o_firsts_n o_firsts_f = some r0) : ct l y_Mod_lowest w_Mod_lowest rm_Mod_lowest (dC, dI) [(cI, .int), (cJ, .long), (cZ, .boolean)] [.ref q_o, .int a1] [(q_o, .inr (7, [.int o_thrown, .int o_width, .int o_height, .ref q_o_former, .ref q_o_later, .ref q_o_charts, .ref q_o_lows, .ref q_o_highs, .int o_repeats, .int o_wide, .int o_floor, .int o_across, .int o_down, .long o_sum, .long o_many, .long o_above, .long o_below, .ref q_o_firsts, .ref q_o_changes, .int o_marked, .int o_spots, .int o_days, .ref q_o_dates, .ref q_o_kept])), (q_o_firsts, .inl (cI, o_firsts_n, .inl o_firsts_f))] (fun w => w = [(q_o, .inr (7, [.int o_thrown, .int o_width, .int o_height, .ref q_o_former, .ref q_o_later, .ref q_o_charts, .ref q_o_lows, .ref q_o_highs, .int o_repeats, .int o_wide, .int o_floor, .int o_across, .int o_down, .long o_sum, .long o_many, .long o_above, .long o_below, .ref q_o_firsts, .ref q_o_changes, .int o_marked, .int o_spots, .int o_days, .ref q_o_dates, .ref q_o_kept])), (q_o_firsts, .inl (cI, o_firsts_n, .inl o_firsts_f))]) (some (.int r0)) := by
  refine ct_of (cc := b_Mod_lowest) (maxL := 5) (ret := (some .int)) (lv := [(0, .ref q_o), (1, .int a1)]) (by decide) rfl rfl rfl ?_
  intro p e s m args below meth c A Q H locs hx hb hml hown hts hin hA hK hN hP hD hS RT ls hl
  unfold p_Mod_lowest at h
  refine lv_aload_n hx hb d_Mod_lowest_0 rfl (lv_at hl 0 rfl) ?_
  refine va_get (D := (dC, dI)) (ci := 7) (v := .ref q_o_firsts) (C := R_Mod) (T := F_Mod) (N := 24) hx hb hts i_Mod hown hK hP 0 rfl rfl 17 (by decide) (hts _ k_625) (fun _ h9 => h9) rfl d_Mod_lowest_1 ?_
  refine lv_iload_n hx hb d_Mod_lowest_4 rfl (lv_at hl 1 rfl) ?_
  obtain ⟨hg, h⟩ := pu_g h
  refine va_iald hx hb hK hP 1 0 rfl rfl hg d_Mod_lowest_5 ?_
  refine lv_istore_n (lv' := [(2, .int (o_firsts_f a1.toNatClampNeg)), (0, .ref q_o), (1, .int a1)]) hx hb d_Mod_lowest_6 rfl hl (by decide) rfl (fun ls hl => ?_)
  refine lv_iconst (v := 0) hx hb d_Mod_lowest_7 (by decide) ?_
  refine lv_istore_n (lv' := [(3, .int 0), (2, .int (o_firsts_f a1.toNatClampNeg)), (0, .ref q_o), (1, .int a1)]) hx hb d_Mod_lowest_8 rfl hl (by decide) rfl (fun ls hl => ?_)
  obtain ⟨e_1, he_1, hx_1⟩ := pu_bd h
  obtain ⟨n_1, hn_1⟩ := pu_loop_it he_1
  have K_1 : ∀ (y2_5 : Int32) (y3_6 : Int32) (H : Heap) (locs : List Loc) (ls : Array Slot), e_1 = (y2_5, y3_6) → lv_has ls 5 [(3, .int y3_6), (2, .int y2_5), (0, .ref q_o), (1, .int a1)] → va_P (dC, dI) vwCl [(q_o, .inr (7, [.int o_thrown, .int o_width, .int o_height, .ref q_o_former, .ref q_o_later, .ref q_o_charts, .ref q_o_lows, .ref q_o_highs, .int o_repeats, .int o_wide, .int o_floor, .int o_across, .int o_down, .long o_sum, .long o_many, .long o_above, .long o_below, .ref q_o_firsts, .ref q_o_changes, .int o_marked, .int o_spots, .int o_days, .ref q_o_dates, .ref q_o_kept])), (q_o_firsts, .inl (cI, o_firsts_n, .inl o_firsts_f))] H → va_D A [(q_o, .inr (7, [.int o_thrown, .int o_width, .int o_height, .ref q_o_former, .ref q_o_later, .ref q_o_charts, .ref q_o_lows, .ref q_o_highs, .int o_repeats, .int o_wide, .int o_floor, .int o_across, .int o_down, .long o_sum, .long o_many, .long o_above, .long o_below, .ref q_o_firsts, .ref q_o_changes, .int o_marked, .int o_spots, .int o_days, .ref q_o_dates, .ref q_o_kept])), (q_o_firsts, .inl (cI, o_firsts_n, .inl o_firsts_f))] → va_S A s.heap H locs → W p l e rm_Mod_lowest s m args below meth c H locs 0 0 Q (F0 m 68 ls []) := by
    intro y2_5 y3_6 H locs ls he hl hP hD hS
    have h := hx_1
    rw [he] at h
    try dsimp only at h
    refine lv_iload_n hx hb d_Mod_lowest_68 rfl (lv_at hl 1 rfl) ?_
    cases h
    refine W.widen (k := 0) (n := 0) (Nat.le_of_ble_eq_true rfl) (Nat.le_of_ble_eq_true rfl) ?_
    exact RT 69 ls H locs _ d_Mod_lowest_69 (Or.inr (Or.inl ⟨rfl, _, rfl⟩)) rfl (hP.sub [0, 1] rfl) (hD.sub [0, 1] (by decide) rfl) hS
  have L_1 : ∀ (n : Nat) (x2_2 : Int32) (x3_3 : Int32) (H : Heap) (locs : List Loc) (ls : Array Slot), pu_it (p_Mod_lowest_L1 a1 o_thrown o_width o_height o_repeats o_wide o_floor o_across o_down o_sum o_many o_above o_below o_marked o_spots o_days o_firsts_n o_firsts_f) n (x2_2, x3_3) = some e_1 → lv_has ls 5 [(3, .int x3_3), (2, .int x2_2), (0, .ref q_o), (1, .int a1)] → va_P (dC, dI) vwCl [(q_o, .inr (7, [.int o_thrown, .int o_width, .int o_height, .ref q_o_former, .ref q_o_later, .ref q_o_charts, .ref q_o_lows, .ref q_o_highs, .int o_repeats, .int o_wide, .int o_floor, .int o_across, .int o_down, .long o_sum, .long o_many, .long o_above, .long o_below, .ref q_o_firsts, .ref q_o_changes, .int o_marked, .int o_spots, .int o_days, .ref q_o_dates, .ref q_o_kept])), (q_o_firsts, .inl (cI, o_firsts_n, .inl o_firsts_f))] H → va_D A [(q_o, .inr (7, [.int o_thrown, .int o_width, .int o_height, .ref q_o_former, .ref q_o_later, .ref q_o_charts, .ref q_o_lows, .ref q_o_highs, .int o_repeats, .int o_wide, .int o_floor, .int o_across, .int o_down, .long o_sum, .long o_many, .long o_above, .long o_below, .ref q_o_firsts, .ref q_o_changes, .int o_marked, .int o_spots, .int o_days, .ref q_o_dates, .ref q_o_kept])), (q_o_firsts, .inl (cI, o_firsts_n, .inl o_firsts_f))] → va_S A s.heap H locs → W p l e rm_Mod_lowest s m args below meth c H locs 0 0 Q (F0 m 9 ls []) := by
    intro n
    induction n with
    | zero => intro x2_2 x3_3 H locs ls hn; exact (pu_it_0 hn).elim
    | succ n ih =>
      intro x2_2 x3_3 H locs ls hn hl hP hD hS
      obtain ⟨r_1, h, hr_1⟩ := pu_it_succ hn
      unfold p_Mod_lowest_L1 at h
      try dsimp only at h
      refine lv_iload_n hx hb d_Mod_lowest_9 rfl (lv_at hl 0 rfl) ?_
      refine lv_iconst (v := 4) hx hb d_Mod_lowest_10 (by decide) ?_
      refine lv_icmp_ge (tgt := 68) hx hb d_Mod_lowest_11 (by decide) (fun hc => ?_) (fun hc => ?_)
      · have h := pu_t hc h
        cases h
        exact K_1 x2_2 x3_3 H locs ls hr_1.symm (lv_sub hl [0, 1, 2, 3] rfl) (hP.sub [0, 1] rfl) (hD.sub [0, 1] (by decide) rfl) hS
      · have h := pu_f hc h
        refine lv_aload_n hx hb d_Mod_lowest_14 rfl (lv_at hl 2 rfl) ?_
        refine lv_iload_n hx hb d_Mod_lowest_15 rfl (lv_at hl 3 rfl) ?_
        refine lv_iload_n hx hb d_Mod_lowest_16 rfl (lv_at hl 0 rfl) ?_
        obtain ⟨v4, hu4, h⟩ := pu_bd h
        refine cc_V (As := [.int a1, .int x3_3]) (rest := []) ⟨hx, hb, hml, hown, hts⟩ (c_Mod_neighbour l dC dI cI cJ cZ q_o q_o_former q_o_later q_o_charts q_o_lows q_o_highs q_o_firsts q_o_changes q_o_dates q_o_kept a1 x3_3 o_thrown o_width o_height o_repeats o_wide o_floor o_across o_down o_sum o_many o_above o_below o_marked o_spots o_days v4 hu4) (cwV 2 hts (gV k_777 k_779 kp_25 k_9 k_780 rfl) rfl rfl rfl hdV_Mod_neighbour ⟨Nat.le_of_ble_eq_true rfl, Nat.le_of_ble_eq_true rfl⟩) hK hN hP hD hS hA [0] [1] (w0 := [(q_o, .inr (7, [.int o_thrown, .int o_width, .int o_height, .ref q_o_former, .ref q_o_later, .ref q_o_charts, .ref q_o_lows, .ref q_o_highs, .int o_repeats, .int o_wide, .int o_floor, .int o_across, .int o_down, .long o_sum, .long o_many, .long o_above, .long o_below, .ref q_o_firsts, .ref q_o_changes, .int o_marked, .int o_spots, .int o_days, .ref q_o_dates, .ref q_o_kept]))]) (wr := [(q_o_firsts, .inl (cI, o_firsts_n, .inl o_firsts_f))]) rfl rfl (by decide) (by decide) (by decide) 7 rfl rfl rfl hl.1 rfl (Nat.le_of_ble_eq_true rfl) d_Mod_lowest_17 ⟨Nat.le_of_ble_eq_true rfl, Nat.le_of_ble_eq_true rfl⟩ (fun w1 H locs hw1 hP hD hS => ?_)
        subst hw1
        have hP : va_P (dC, dI) vwCl [(q_o_firsts, .inl (cI, o_firsts_n, .inl o_firsts_f)), (q_o, .inr (7, [.int o_thrown, .int o_width, .int o_height, .ref q_o_former, .ref q_o_later, .ref q_o_charts, .ref q_o_lows, .ref q_o_highs, .int o_repeats, .int o_wide, .int o_floor, .int o_across, .int o_down, .long o_sum, .long o_many, .long o_above, .long o_below, .ref q_o_firsts, .ref q_o_changes, .int o_marked, .int o_spots, .int o_days, .ref q_o_dates, .ref q_o_kept]))] H := hP
        have hD : va_D A [(q_o_firsts, .inl (cI, o_firsts_n, .inl o_firsts_f)), (q_o, .inr (7, [.int o_thrown, .int o_width, .int o_height, .ref q_o_former, .ref q_o_later, .ref q_o_charts, .ref q_o_lows, .ref q_o_highs, .int o_repeats, .int o_wide, .int o_floor, .int o_across, .int o_down, .long o_sum, .long o_many, .long o_above, .long o_below, .ref q_o_firsts, .ref q_o_changes, .int o_marked, .int o_spots, .int o_days, .ref q_o_dates, .ref q_o_kept]))] := hD
        refine lv_istore (lv' := [(4, .int v4), (3, .int x3_3), (2, .int x2_2), (0, .ref q_o), (1, .int a1)]) hx hb d_Mod_lowest_20 hl (by decide) rfl (fun ls hl => ?_)
        refine lv_iload hx hb d_Mod_lowest_22 (lv_at hl 0 rfl) ?_
        refine lv_iconst (v := (-1)) hx hb d_Mod_lowest_24 (by decide) ?_
        refine lv_icmp_eq (tgt := 60) hx hb d_Mod_lowest_25 (by decide) (fun hc => ?_) (fun hc => ?_)
        · have h := pu_t hc h
          refine lv_iload_n hx hb d_Mod_lowest_60 rfl (lv_at hl 2 rfl) ?_
          refine lv_istore_n (lv' := [(2, .int x2_2), (4, .int v4), (3, .int x3_3), (0, .ref q_o), (1, .int a1)]) hx hb d_Mod_lowest_61 rfl hl (by decide) rfl (fun ls hl => ?_)
          refine lv_iinc (v := (x3_3 + 1)) (lv' := [(3, .int (x3_3 + 1)), (2, .int x2_2), (4, .int v4), (0, .ref q_o), (1, .int a1)]) hx hb d_Mod_lowest_62 hl (k := 2) rfl rfl (by decide) rfl (fun ls hl => ?_)
          refine lv_goto (tgt := 9) hx hb d_Mod_lowest_65 (by decide) ?_
          cases h
          exact ih x2_2 (x3_3 + 1) H locs ls hr_1 (lv_sub hl [0, 1, 3, 4] rfl) (hP.sub [1, 0] rfl) (hD.sub [1, 0] (by decide) rfl) hS
        · have h := pu_f hc h
          refine lv_aload_n hx hb d_Mod_lowest_28 rfl (lv_at hl 3 rfl) ?_
          refine va_get (D := (dC, dI)) (ci := 7) (v := .ref q_o_firsts) (C := R_Mod) (T := F_Mod) (N := 24) hx hb hts i_Mod hown hK hP 1 rfl rfl 17 (by decide) (hts _ k_625) (fun _ h9 => h9) rfl d_Mod_lowest_29 ?_
          refine lv_iload hx hb d_Mod_lowest_32 (lv_at hl 0 rfl) ?_
          obtain ⟨hg, h⟩ := pu_g h
          refine va_iald hx hb hK hP 0 0 rfl rfl hg d_Mod_lowest_34 ?_
          refine lv_iconst (v := (-1)) hx hb d_Mod_lowest_35 (by decide) ?_
          refine lv_icmp_eq (tgt := 60) hx hb d_Mod_lowest_36 (by decide) (fun hc => ?_) (fun hc => ?_)
          · have h := pu_t hc h
            refine lv_iload_n hx hb d_Mod_lowest_60 rfl (lv_at hl 2 rfl) ?_
            refine lv_istore_n (lv' := [(2, .int x2_2), (4, .int v4), (3, .int x3_3), (0, .ref q_o), (1, .int a1)]) hx hb d_Mod_lowest_61 rfl hl (by decide) rfl (fun ls hl => ?_)
            refine lv_iinc (v := (x3_3 + 1)) (lv' := [(3, .int (x3_3 + 1)), (2, .int x2_2), (4, .int v4), (0, .ref q_o), (1, .int a1)]) hx hb d_Mod_lowest_62 hl (k := 2) rfl rfl (by decide) rfl (fun ls hl => ?_)
            refine lv_goto (tgt := 9) hx hb d_Mod_lowest_65 (by decide) ?_
            cases h
            exact ih x2_2 (x3_3 + 1) H locs ls hr_1 (lv_sub hl [0, 1, 3, 4] rfl) (hP.sub [1, 0] rfl) (hD.sub [1, 0] (by decide) rfl) hS
          · have h := pu_f hc h
            refine lv_aload_n hx hb d_Mod_lowest_39 rfl (lv_at hl 3 rfl) ?_
            refine va_get (D := (dC, dI)) (ci := 7) (v := .ref q_o_firsts) (C := R_Mod) (T := F_Mod) (N := 24) hx hb hts i_Mod hown hK hP 1 rfl rfl 17 (by decide) (hts _ k_625) (fun _ h9 => h9) rfl d_Mod_lowest_40 ?_
            refine lv_iload hx hb d_Mod_lowest_43 (lv_at hl 0 rfl) ?_
            obtain ⟨hg, h⟩ := pu_g h
            refine va_iald hx hb hK hP 0 0 rfl rfl hg d_Mod_lowest_45 ?_
            refine lv_iload_n hx hb d_Mod_lowest_46 rfl (lv_at hl 2 rfl) ?_
            refine lv_icmp_ge (tgt := 60) hx hb d_Mod_lowest_47 (by decide) (fun hc => ?_) (fun hc => ?_)
            · have h := pu_t hc h
              refine lv_iload_n hx hb d_Mod_lowest_60 rfl (lv_at hl 2 rfl) ?_
              refine lv_istore_n (lv' := [(2, .int x2_2), (4, .int v4), (3, .int x3_3), (0, .ref q_o), (1, .int a1)]) hx hb d_Mod_lowest_61 rfl hl (by decide) rfl (fun ls hl => ?_)
              refine lv_iinc (v := (x3_3 + 1)) (lv' := [(3, .int (x3_3 + 1)), (2, .int x2_2), (4, .int v4), (0, .ref q_o), (1, .int a1)]) hx hb d_Mod_lowest_62 hl (k := 2) rfl rfl (by decide) rfl (fun ls hl => ?_)
              refine lv_goto (tgt := 9) hx hb d_Mod_lowest_65 (by decide) ?_
              cases h
              exact ih x2_2 (x3_3 + 1) H locs ls hr_1 (lv_sub hl [0, 1, 3, 4] rfl) (hP.sub [1, 0] rfl) (hD.sub [1, 0] (by decide) rfl) hS
            · have h := pu_f hc h
              refine lv_aload_n hx hb d_Mod_lowest_50 rfl (lv_at hl 3 rfl) ?_
              refine va_get (D := (dC, dI)) (ci := 7) (v := .ref q_o_firsts) (C := R_Mod) (T := F_Mod) (N := 24) hx hb hts i_Mod hown hK hP 1 rfl rfl 17 (by decide) (hts _ k_625) (fun _ h9 => h9) rfl d_Mod_lowest_51 ?_
              refine lv_iload hx hb d_Mod_lowest_54 (lv_at hl 0 rfl) ?_
              obtain ⟨hg, h⟩ := pu_g h
              refine va_iald hx hb hK hP 0 0 rfl rfl hg d_Mod_lowest_56 ?_
              refine lv_goto (tgt := 61) hx hb d_Mod_lowest_57 (by decide) ?_
              refine lv_istore_n (lv' := [(2, .int (o_firsts_f v4.toNatClampNeg)), (4, .int v4), (3, .int x3_3), (0, .ref q_o), (1, .int a1)]) hx hb d_Mod_lowest_61 rfl hl (by decide) rfl (fun ls hl => ?_)
              refine lv_iinc (v := (x3_3 + 1)) (lv' := [(3, .int (x3_3 + 1)), (2, .int (o_firsts_f v4.toNatClampNeg)), (4, .int v4), (0, .ref q_o), (1, .int a1)]) hx hb d_Mod_lowest_62 hl (k := 2) rfl rfl (by decide) rfl (fun ls hl => ?_)
              refine lv_goto (tgt := 9) hx hb d_Mod_lowest_65 (by decide) ?_
              cases h
              exact ih (o_firsts_f v4.toNatClampNeg) (x3_3 + 1) H locs ls hr_1 (lv_sub hl [0, 1, 3, 4] rfl) (hP.sub [1, 0] rfl) (hD.sub [1, 0] (by decide) rfl) hS
  exact L_1 n_1 (o_firsts_f a1.toNatClampNeg) 0 H locs ls hn_1 hl hP hD hS

noncomputable def p_Mod_run_L2 (o_width : Int32) (o_height : Int32) (o_repeats : Int32) (o_wide : Int32) (o_floor : Int32) (o_across : Int32) (o_down : Int32) (o_sum : Int64) (o_many : Int64) (o_spots : Int32) (o_days : Int32) (o_former_n : Nat) (o_former_f : Nat → Int32) (o_later_n : Nat) (o_later_f : Nat → Int32) (o_lows_n : Nat) (o_lows_f : Nat → Int32) (o_highs_n : Nat) (o_highs_f : Nat → Int32) (o_firsts_n : Nat) (o_changes_n : Nat) (u1_0 : Int64) (u1_1 : Int64) : (Int32 × Int32 × (Nat → Int32) × (Nat → Int32)) → Option ((Int32 × Int32 × (Nat → Int32) × (Nat → Int32)) ⊕ (Int32 × Int32 × (Nat → Int32) × (Nat → Int32))) := fun ((x1_3, o_marked_4, o_firsts_f_5, o_changes_f_6) : Int32 × Int32 × (Nat → Int32) × (Nat → Int32)) =>
  (if 576 ≤ x1_3 then some (.inr (x1_3, o_marked_4, o_firsts_f_5, o_changes_f_6)) else (p_Mod_isPlace x1_3 0 o_width o_height o_repeats o_wide o_floor o_across o_down o_sum o_many u1_0 u1_1 o_marked_4 o_spots o_days).bind (fun (v7 : Int32) => ((if v7 = 0 then some 0 else (p_Mod_changeOf x1_3 0 o_width o_height o_repeats o_wide o_floor o_across o_down o_sum o_many u1_0 u1_1 o_marked_4 o_spots o_days o_former_n o_former_f o_later_n o_later_f).bind (fun (v9 : Int32) => some v9))).bind (fun (j8_10 : Int32) => pu_gd (vp_in x1_3 o_changes_n) ((p_Mod_isPlace x1_3 0 o_width o_height o_repeats o_wide o_floor o_across o_down o_sum o_many u1_0 u1_1 o_marked_4 o_spots o_days).bind (fun (v11 : Int32) => ((if v11 = 0 then some (-1) else pu_gd (vp_in x1_3 o_changes_n) ((p_Mod_boundOf x1_3 0 o_width o_height o_repeats o_wide o_floor o_across o_down o_sum o_many u1_0 u1_1 o_marked_4 o_spots o_days o_former_n o_former_f o_lows_n o_lows_f o_highs_n o_highs_f).bind (fun (v13 : Int32) => (if ((upd o_changes_f_6 x1_3.toNatClampNeg j8_10) x1_3.toNatClampNeg) ≤ v13 then some (-1) else some x1_3))))).bind (fun (j12_14 : Int32) => pu_gd (vp_in x1_3 o_firsts_n) (pu_gd (vp_in x1_3 o_firsts_n) ((if ((upd o_firsts_f_5 x1_3.toNatClampNeg j12_14) x1_3.toNatClampNeg) = (-1) then some (.inl ((x1_3 + 1), o_marked_4, (upd o_firsts_f_5 x1_3.toNatClampNeg j12_14), (upd o_changes_f_6 x1_3.toNatClampNeg j8_10))) else some (.inl ((x1_3 + 1), (o_marked_4 + 1), (upd o_firsts_f_5 x1_3.toNatClampNeg j12_14), (upd o_changes_f_6 x1_3.toNatClampNeg j8_10))))))))))))
noncomputable def p_Mod_run_L22 (o_width : Int32) (o_height : Int32) (o_repeats : Int32) (o_wide : Int32) (o_floor : Int32) (o_across : Int32) (o_down : Int32) (o_sum : Int64) (o_many : Int64) (o_spots : Int32) (o_days : Int32) (o_firsts_n : Nat) (u1_0 : Int64) (u1_1 : Int64) (z16 : Int32) : (Int32 × Int32 × (Nat → Int32)) → Option ((Int32 × Int32 × (Nat → Int32)) ⊕ (Int32 × Int32 × (Nat → Int32))) := fun ((x1_23, x2_24, o_firsts_f_25) : Int32 × Int32 × (Nat → Int32)) =>
  (if 576 ≤ x2_24 then some (.inr (x1_23, x2_24, o_firsts_f_25)) else pu_gd (vp_in x2_24 o_firsts_n) ((if (o_firsts_f_25 x2_24.toNatClampNeg) = (-1) then some (.inl (x1_23, (x2_24 + 1), o_firsts_f_25)) else (p_Mod_lowest x2_24 0 o_width o_height o_repeats o_wide o_floor o_across o_down o_sum o_many u1_0 u1_1 z16 o_spots o_days o_firsts_n o_firsts_f_25).bind (fun (v26 : Int32) => pu_gd (vp_in x2_24 o_firsts_n) ((if (o_firsts_f_25 x2_24.toNatClampNeg) ≤ v26 then some (.inl (x1_23, (x2_24 + 1), o_firsts_f_25)) else (p_Mod_lowest x2_24 0 o_width o_height o_repeats o_wide o_floor o_across o_down o_sum o_many u1_0 u1_1 z16 o_spots o_days o_firsts_n o_firsts_f_25).bind (fun (v27 : Int32) => pu_gd (vp_in x2_24 o_firsts_n) (some (.inl (1, (x2_24 + 1), (upd o_firsts_f_25 x2_24.toNatClampNeg v27)))))))))))
noncomputable def p_Mod_run_L19 (o_width : Int32) (o_height : Int32) (o_repeats : Int32) (o_wide : Int32) (o_floor : Int32) (o_across : Int32) (o_down : Int32) (o_sum : Int64) (o_many : Int64) (o_spots : Int32) (o_days : Int32) (o_firsts_n : Nat) (u1_0 : Int64) (u1_1 : Int64) (z16 : Int32) : (Int32 × (Nat → Int32)) → Option ((Int32 × (Nat → Int32)) ⊕ (Int32 × (Nat → Int32))) := fun ((x1_20, o_firsts_f_21) : Int32 × (Nat → Int32)) =>
  (if x1_20 = 0 then some (.inr (x1_20, o_firsts_f_21)) else (pu_loop (p_Mod_run_L22 o_width o_height o_repeats o_wide o_floor o_across o_down o_sum o_many o_spots o_days o_firsts_n u1_0 u1_1 z16) (0, 0, o_firsts_f_21)).bind (fun ((y1_28, y2_29, z30) : Int32 × Int32 × (Nat → Int32)) => some (.inl (y1_28, z30))))
noncomputable def p_Mod_run_L33 (o_firsts_n : Nat) (z32 : Nat → Int32) : (Int32 × Int32) → Option ((Int32 × Int32) ⊕ (Int32 × Int32)) := fun ((x2_34, o_spots_35) : Int32 × Int32) =>
  (if 576 ≤ x2_34 then some (.inr (x2_34, o_spots_35)) else pu_gd (vp_in x2_34 o_firsts_n) ((if (z32 x2_34.toNatClampNeg) = x2_34 then some (.inl ((x2_34 + 1), (o_spots_35 + 1))) else some (.inl ((x2_34 + 1), o_spots_35)))))
noncomputable def p_Mod_run (o_thrown : Int32) (o_width : Int32) (o_height : Int32) (o_repeats : Int32) (o_wide : Int32) (o_floor : Int32) (o_across : Int32) (o_down : Int32) (o_sum : Int64) (o_many : Int64) (o_above : Int64) (o_below : Int64) (o_marked : Int32) (o_spots : Int32) (o_days : Int32) (o_former_n : Nat) (o_former_f : Nat → Int32) (o_later_n : Nat) (o_later_f : Nat → Int32) (o_charts_n : Nat) (o_charts_f : Nat → Int32) (o_lows_n : Nat) (o_lows_f : Nat → Int32) (o_highs_n : Nat) (o_highs_f : Nat → Int32) (o_firsts_n : Nat) (o_firsts_f : Nat → Int32) (o_changes_n : Nat) (o_changes_f : Nat → Int32) : Option (Int32 × Int32 × Int64 × Int64 × Int32 × Int32 × (Nat → Int32) × (Nat → Int32)) :=
  (p_Mod_weigh 0 o_width o_height o_repeats o_wide o_floor o_across o_down o_sum o_many o_above o_below o_marked o_spots o_days o_former_n o_former_f o_later_n o_later_f o_charts_n o_charts_f).bind (fun ((u1_0, u1_1) : Int64 × Int64) => (pu_loop (p_Mod_run_L2 o_width o_height o_repeats o_wide o_floor o_across o_down o_sum o_many o_spots o_days o_former_n o_former_f o_later_n o_later_f o_lows_n o_lows_f o_highs_n o_highs_f o_firsts_n o_changes_n u1_0 u1_1) (0, 0, o_firsts_f, o_changes_f)).bind (fun ((y1_15, z16, z17, z18) : Int32 × Int32 × (Nat → Int32) × (Nat → Int32)) => (pu_loop (p_Mod_run_L19 o_width o_height o_repeats o_wide o_floor o_across o_down o_sum o_many o_spots o_days o_firsts_n u1_0 u1_1 z16) (1, z17)).bind (fun ((y1_31, z32) : Int32 × (Nat → Int32)) => (pu_loop (p_Mod_run_L33 o_firsts_n z32) (0, 0)).bind (fun ((y2_36, z37) : Int32 × Int32) => some (z37, 0, u1_0, u1_1, z16, z37, z32, z18)))))
set_option maxHeartbeats 4000000 in
set_option maxRecDepth 100000 in
theorem c_Mod_run (l : Launch) (dC : Nat → ClassId) (dI : Nat → Nat → Nat) (cI cJ cZ : ClassId) (q_o q_o_former q_o_later q_o_charts q_o_lows q_o_highs q_o_firsts q_o_changes q_o_dates q_o_kept : Nat) (o_thrown : Int32) (o_width : Int32) (o_height : Int32) (o_repeats : Int32) (o_wide : Int32) (o_floor : Int32) (o_across : Int32) (o_down : Int32) (o_sum : Int64) (o_many : Int64) (o_above : Int64) (o_below : Int64) (o_marked : Int32) (o_spots : Int32) (o_days : Int32) (o_former_n : Nat) (o_former_f : Nat → Int32) (o_later_n : Nat) (o_later_f : Nat → Int32) (o_charts_n : Nat) (o_charts_f : Nat → Int32) (o_lows_n : Nat) (o_lows_f : Nat → Int32) (o_highs_n : Nat) (o_highs_f : Nat → Int32) (o_firsts_n : Nat) (o_firsts_f : Nat → Int32) (o_changes_n : Nat) (o_changes_f : Nat → Int32) (r0 : Int32) (r1 : Int32) (r2 : Int64) (r3 : Int64) (r4 : Int32) (r5 : Int32) (r6 : Nat → Int32) (r7 : Nat → Int32) (h : p_Mod_run o_thrown o_width o_height o_repeats o_wide o_floor o_across o_down o_sum o_many o_above o_below o_marked o_spots o_days o_former_n o_former_f o_later_n o_later_f o_charts_n o_charts_f o_lows_n o_lows_f o_highs_n o_highs_f o_firsts_n o_firsts_f o_changes_n o_changes_f = some (r0, r1, r2, r3, r4, r5, r6, r7)) : ct l y_Mod_run w_Mod_run rm_Mod_run (dC, dI) [(cI, .int), (cJ, .long), (cZ, .boolean)] [.ref q_o] [(q_o, .inr (7, [.int o_thrown, .int o_width, .int o_height, .ref q_o_former, .ref q_o_later, .ref q_o_charts, .ref q_o_lows, .ref q_o_highs, .int o_repeats, .int o_wide, .int o_floor, .int o_across, .int o_down, .long o_sum, .long o_many, .long o_above, .long o_below, .ref q_o_firsts, .ref q_o_changes, .int o_marked, .int o_spots, .int o_days, .ref q_o_dates, .ref q_o_kept])), (q_o_former, .inl (cI, o_former_n, .inl o_former_f)), (q_o_later, .inl (cI, o_later_n, .inl o_later_f)), (q_o_charts, .inl (cZ, o_charts_n, .inl o_charts_f)), (q_o_lows, .inl (cI, o_lows_n, .inl o_lows_f)), (q_o_highs, .inl (cI, o_highs_n, .inl o_highs_f)), (q_o_firsts, .inl (cI, o_firsts_n, .inl o_firsts_f)), (q_o_changes, .inl (cI, o_changes_n, .inl o_changes_f))] (fun w => w = [(q_o, .inr (7, [.int r1, .int o_width, .int o_height, .ref q_o_former, .ref q_o_later, .ref q_o_charts, .ref q_o_lows, .ref q_o_highs, .int o_repeats, .int o_wide, .int o_floor, .int o_across, .int o_down, .long o_sum, .long o_many, .long r2, .long r3, .ref q_o_firsts, .ref q_o_changes, .int r4, .int r5, .int o_days, .ref q_o_dates, .ref q_o_kept])), (q_o_former, .inl (cI, o_former_n, .inl o_former_f)), (q_o_later, .inl (cI, o_later_n, .inl o_later_f)), (q_o_charts, .inl (cZ, o_charts_n, .inl o_charts_f)), (q_o_lows, .inl (cI, o_lows_n, .inl o_lows_f)), (q_o_highs, .inl (cI, o_highs_n, .inl o_highs_f)), (q_o_firsts, .inl (cI, o_firsts_n, .inl r6)), (q_o_changes, .inl (cI, o_changes_n, .inl r7))]) (some (.int r0)) := by
  refine ct_of (cc := b_Mod_run) (maxL := 3) (ret := (some .int)) (lv := [(0, .ref q_o)]) (by decide) rfl rfl rfl ?_
  intro p e s m args below meth c A Q H locs hx hb hml hown hts hin hA hK hN hP hD hS RT ls hl
  unfold p_Mod_run at h
  refine lv_aload_n hx hb d_Mod_run_0 rfl (lv_at hl 0 rfl) ?_
  refine lv_iconst (v := 0) hx hb d_Mod_run_1 (by decide) ?_
  refine va_put (D := (dC, dI)) (ci := 7) (v := .int 0) (ty := .int) (C := R_Mod) (T := F_Mod) (N := 24) hx hb hts i_Mod t_Mod t_Mod_ok n_Mod hown hK hP hD hS 0 rfl rfl 0 (by decide) (hts _ k_608) (fun _ h9 => h9) rfl (by decide +kernel) rfl rfl (Nat.le_of_ble_eq_true rfl) d_Mod_run_2 (fun H locs hP hD hS => ?_)
  have hP : va_P (dC, dI) vwCl [(q_o, .inr (7, [.int 0, .int o_width, .int o_height, .ref q_o_former, .ref q_o_later, .ref q_o_charts, .ref q_o_lows, .ref q_o_highs, .int o_repeats, .int o_wide, .int o_floor, .int o_across, .int o_down, .long o_sum, .long o_many, .long o_above, .long o_below, .ref q_o_firsts, .ref q_o_changes, .int o_marked, .int o_spots, .int o_days, .ref q_o_dates, .ref q_o_kept])), (q_o_former, .inl (cI, o_former_n, .inl o_former_f)), (q_o_later, .inl (cI, o_later_n, .inl o_later_f)), (q_o_charts, .inl (cZ, o_charts_n, .inl o_charts_f)), (q_o_lows, .inl (cI, o_lows_n, .inl o_lows_f)), (q_o_highs, .inl (cI, o_highs_n, .inl o_highs_f)), (q_o_firsts, .inl (cI, o_firsts_n, .inl o_firsts_f)), (q_o_changes, .inl (cI, o_changes_n, .inl o_changes_f))] H := hP
  have hD : va_D A [(q_o, .inr (7, [.int 0, .int o_width, .int o_height, .ref q_o_former, .ref q_o_later, .ref q_o_charts, .ref q_o_lows, .ref q_o_highs, .int o_repeats, .int o_wide, .int o_floor, .int o_across, .int o_down, .long o_sum, .long o_many, .long o_above, .long o_below, .ref q_o_firsts, .ref q_o_changes, .int o_marked, .int o_spots, .int o_days, .ref q_o_dates, .ref q_o_kept])), (q_o_former, .inl (cI, o_former_n, .inl o_former_f)), (q_o_later, .inl (cI, o_later_n, .inl o_later_f)), (q_o_charts, .inl (cZ, o_charts_n, .inl o_charts_f)), (q_o_lows, .inl (cI, o_lows_n, .inl o_lows_f)), (q_o_highs, .inl (cI, o_highs_n, .inl o_highs_f)), (q_o_firsts, .inl (cI, o_firsts_n, .inl o_firsts_f)), (q_o_changes, .inl (cI, o_changes_n, .inl o_changes_f))] := hD
  refine lv_aload_n hx hb d_Mod_run_5 rfl (lv_at hl 0 rfl) ?_
  obtain ⟨⟨u1_0, u1_1⟩, hu1, h⟩ := pu_bd h
  try dsimp only at h
  refine cc_V (As := []) (rest := []) ⟨hx, hb, hml, hown, hts⟩ (c_Mod_weigh l dC dI cI cJ cZ q_o q_o_former q_o_later q_o_charts q_o_lows q_o_highs q_o_firsts q_o_changes q_o_dates q_o_kept 0 o_width o_height o_repeats o_wide o_floor o_across o_down o_sum o_many o_above o_below o_marked o_spots o_days o_former_n o_former_f o_later_n o_later_f o_charts_n o_charts_f u1_0 u1_1 hu1) (cwV 0 hts (gV k_737 k_739 kp_21 k_9 k_740 rfl) rfl rfl rfl hdV_Mod_weigh ⟨Nat.le_of_ble_eq_true rfl, Nat.le_of_ble_eq_true rfl⟩) hK hN hP hD hS hA [0, 1, 2, 3] [4, 5, 6, 7] (w0 := [(q_o, .inr (7, [.int 0, .int o_width, .int o_height, .ref q_o_former, .ref q_o_later, .ref q_o_charts, .ref q_o_lows, .ref q_o_highs, .int o_repeats, .int o_wide, .int o_floor, .int o_across, .int o_down, .long o_sum, .long o_many, .long o_above, .long o_below, .ref q_o_firsts, .ref q_o_changes, .int o_marked, .int o_spots, .int o_days, .ref q_o_dates, .ref q_o_kept])), (q_o_former, .inl (cI, o_former_n, .inl o_former_f)), (q_o_later, .inl (cI, o_later_n, .inl o_later_f)), (q_o_charts, .inl (cZ, o_charts_n, .inl o_charts_f))]) (wr := [(q_o_lows, .inl (cI, o_lows_n, .inl o_lows_f)), (q_o_highs, .inl (cI, o_highs_n, .inl o_highs_f)), (q_o_firsts, .inl (cI, o_firsts_n, .inl o_firsts_f)), (q_o_changes, .inl (cI, o_changes_n, .inl o_changes_f))]) rfl rfl (by decide) (by decide) (by decide) 7 rfl rfl rfl hl.1 rfl (Nat.le_of_ble_eq_true rfl) d_Mod_run_6 ⟨Nat.le_of_ble_eq_true rfl, Nat.le_of_ble_eq_true rfl⟩ (fun w1 H locs hw1 hP hD hS => ?_)
  subst hw1
  have hP : va_P (dC, dI) vwCl [(q_o_lows, .inl (cI, o_lows_n, .inl o_lows_f)), (q_o_highs, .inl (cI, o_highs_n, .inl o_highs_f)), (q_o_firsts, .inl (cI, o_firsts_n, .inl o_firsts_f)), (q_o_changes, .inl (cI, o_changes_n, .inl o_changes_f)), (q_o, .inr (7, [.int 0, .int o_width, .int o_height, .ref q_o_former, .ref q_o_later, .ref q_o_charts, .ref q_o_lows, .ref q_o_highs, .int o_repeats, .int o_wide, .int o_floor, .int o_across, .int o_down, .long o_sum, .long o_many, .long u1_0, .long u1_1, .ref q_o_firsts, .ref q_o_changes, .int o_marked, .int o_spots, .int o_days, .ref q_o_dates, .ref q_o_kept])), (q_o_former, .inl (cI, o_former_n, .inl o_former_f)), (q_o_later, .inl (cI, o_later_n, .inl o_later_f)), (q_o_charts, .inl (cZ, o_charts_n, .inl o_charts_f))] H := hP
  have hD : va_D A [(q_o_lows, .inl (cI, o_lows_n, .inl o_lows_f)), (q_o_highs, .inl (cI, o_highs_n, .inl o_highs_f)), (q_o_firsts, .inl (cI, o_firsts_n, .inl o_firsts_f)), (q_o_changes, .inl (cI, o_changes_n, .inl o_changes_f)), (q_o, .inr (7, [.int 0, .int o_width, .int o_height, .ref q_o_former, .ref q_o_later, .ref q_o_charts, .ref q_o_lows, .ref q_o_highs, .int o_repeats, .int o_wide, .int o_floor, .int o_across, .int o_down, .long o_sum, .long o_many, .long u1_0, .long u1_1, .ref q_o_firsts, .ref q_o_changes, .int o_marked, .int o_spots, .int o_days, .ref q_o_dates, .ref q_o_kept])), (q_o_former, .inl (cI, o_former_n, .inl o_former_f)), (q_o_later, .inl (cI, o_later_n, .inl o_later_f)), (q_o_charts, .inl (cZ, o_charts_n, .inl o_charts_f))] := hD
  refine lv_aload_n hx hb d_Mod_run_9 rfl (lv_at hl 0 rfl) ?_
  refine lv_iconst (v := 0) hx hb d_Mod_run_10 (by decide) ?_
  refine va_put (D := (dC, dI)) (ci := 7) (v := .int 0) (ty := .int) (C := R_Mod) (T := F_Mod) (N := 24) hx hb hts i_Mod t_Mod t_Mod_ok n_Mod hown hK hP hD hS 4 rfl rfl 19 (by decide) (hts _ k_627) (fun _ h9 => h9) rfl (by decide +kernel) rfl rfl (Nat.le_of_ble_eq_true rfl) d_Mod_run_11 (fun H locs hP hD hS => ?_)
  have hP : va_P (dC, dI) vwCl [(q_o_lows, .inl (cI, o_lows_n, .inl o_lows_f)), (q_o_highs, .inl (cI, o_highs_n, .inl o_highs_f)), (q_o_firsts, .inl (cI, o_firsts_n, .inl o_firsts_f)), (q_o_changes, .inl (cI, o_changes_n, .inl o_changes_f)), (q_o, .inr (7, [.int 0, .int o_width, .int o_height, .ref q_o_former, .ref q_o_later, .ref q_o_charts, .ref q_o_lows, .ref q_o_highs, .int o_repeats, .int o_wide, .int o_floor, .int o_across, .int o_down, .long o_sum, .long o_many, .long u1_0, .long u1_1, .ref q_o_firsts, .ref q_o_changes, .int 0, .int o_spots, .int o_days, .ref q_o_dates, .ref q_o_kept])), (q_o_former, .inl (cI, o_former_n, .inl o_former_f)), (q_o_later, .inl (cI, o_later_n, .inl o_later_f)), (q_o_charts, .inl (cZ, o_charts_n, .inl o_charts_f))] H := hP
  have hD : va_D A [(q_o_lows, .inl (cI, o_lows_n, .inl o_lows_f)), (q_o_highs, .inl (cI, o_highs_n, .inl o_highs_f)), (q_o_firsts, .inl (cI, o_firsts_n, .inl o_firsts_f)), (q_o_changes, .inl (cI, o_changes_n, .inl o_changes_f)), (q_o, .inr (7, [.int 0, .int o_width, .int o_height, .ref q_o_former, .ref q_o_later, .ref q_o_charts, .ref q_o_lows, .ref q_o_highs, .int o_repeats, .int o_wide, .int o_floor, .int o_across, .int o_down, .long o_sum, .long o_many, .long u1_0, .long u1_1, .ref q_o_firsts, .ref q_o_changes, .int 0, .int o_spots, .int o_days, .ref q_o_dates, .ref q_o_kept])), (q_o_former, .inl (cI, o_former_n, .inl o_former_f)), (q_o_later, .inl (cI, o_later_n, .inl o_later_f)), (q_o_charts, .inl (cZ, o_charts_n, .inl o_charts_f))] := hD
  refine lv_iconst (v := 0) hx hb d_Mod_run_14 (by decide) ?_
  refine lv_istore_n (lv' := [(1, .int 0), (0, .ref q_o)]) hx hb d_Mod_run_15 rfl hl (by decide) rfl (fun ls hl => ?_)
  obtain ⟨e_2, he_2, hx_2⟩ := pu_bd h
  obtain ⟨n_2, hn_2⟩ := pu_loop_it he_2
  have K_2 : ∀ (y1_15 : Int32) (z16 : Int32) (z17 : Nat → Int32) (z18 : Nat → Int32) (H : Heap) (locs : List Loc) (ls : Array Slot), e_2 = (y1_15, z16, z17, z18) → lv_has ls 3 [(1, .int y1_15), (0, .ref q_o)] → va_P (dC, dI) vwCl [(q_o_lows, .inl (cI, o_lows_n, .inl o_lows_f)), (q_o_highs, .inl (cI, o_highs_n, .inl o_highs_f)), (q_o_firsts, .inl (cI, o_firsts_n, .inl z17)), (q_o_changes, .inl (cI, o_changes_n, .inl z18)), (q_o, .inr (7, [.int 0, .int o_width, .int o_height, .ref q_o_former, .ref q_o_later, .ref q_o_charts, .ref q_o_lows, .ref q_o_highs, .int o_repeats, .int o_wide, .int o_floor, .int o_across, .int o_down, .long o_sum, .long o_many, .long u1_0, .long u1_1, .ref q_o_firsts, .ref q_o_changes, .int z16, .int o_spots, .int o_days, .ref q_o_dates, .ref q_o_kept])), (q_o_former, .inl (cI, o_former_n, .inl o_former_f)), (q_o_later, .inl (cI, o_later_n, .inl o_later_f)), (q_o_charts, .inl (cZ, o_charts_n, .inl o_charts_f))] H → va_D A [(q_o_lows, .inl (cI, o_lows_n, .inl o_lows_f)), (q_o_highs, .inl (cI, o_highs_n, .inl o_highs_f)), (q_o_firsts, .inl (cI, o_firsts_n, .inl z17)), (q_o_changes, .inl (cI, o_changes_n, .inl z18)), (q_o, .inr (7, [.int 0, .int o_width, .int o_height, .ref q_o_former, .ref q_o_later, .ref q_o_charts, .ref q_o_lows, .ref q_o_highs, .int o_repeats, .int o_wide, .int o_floor, .int o_across, .int o_down, .long o_sum, .long o_many, .long u1_0, .long u1_1, .ref q_o_firsts, .ref q_o_changes, .int z16, .int o_spots, .int o_days, .ref q_o_dates, .ref q_o_kept])), (q_o_former, .inl (cI, o_former_n, .inl o_former_f)), (q_o_later, .inl (cI, o_later_n, .inl o_later_f)), (q_o_charts, .inl (cZ, o_charts_n, .inl o_charts_f))] → va_S A s.heap H locs → W p l e rm_Mod_run s m args below meth c H locs 0 0 Q (F0 m 112 ls []) := by
    intro y1_15 z16 z17 z18 H locs ls he hl hP hD hS
    have h := hx_2
    rw [he] at h
    try dsimp only at h
    refine lv_iconst (v := 1) hx hb d_Mod_run_112 (by decide) ?_
    refine lv_istore_n (lv' := [(1, .int 1), (0, .ref q_o)]) hx hb d_Mod_run_113 rfl hl (by decide) rfl (fun ls hl => ?_)
    obtain ⟨e_19, he_19, hx_19⟩ := pu_bd h
    obtain ⟨n_19, hn_19⟩ := pu_loop_it he_19
    have K_19 : ∀ (y1_31 : Int32) (z32 : Nat → Int32) (H : Heap) (locs : List Loc) (ls : Array Slot), e_19 = (y1_31, z32) → lv_has ls 3 [(1, .int y1_31), (0, .ref q_o)] → va_P (dC, dI) vwCl [(q_o_lows, .inl (cI, o_lows_n, .inl o_lows_f)), (q_o_highs, .inl (cI, o_highs_n, .inl o_highs_f)), (q_o_firsts, .inl (cI, o_firsts_n, .inl z32)), (q_o_changes, .inl (cI, o_changes_n, .inl z18)), (q_o, .inr (7, [.int 0, .int o_width, .int o_height, .ref q_o_former, .ref q_o_later, .ref q_o_charts, .ref q_o_lows, .ref q_o_highs, .int o_repeats, .int o_wide, .int o_floor, .int o_across, .int o_down, .long o_sum, .long o_many, .long u1_0, .long u1_1, .ref q_o_firsts, .ref q_o_changes, .int z16, .int o_spots, .int o_days, .ref q_o_dates, .ref q_o_kept])), (q_o_former, .inl (cI, o_former_n, .inl o_former_f)), (q_o_later, .inl (cI, o_later_n, .inl o_later_f)), (q_o_charts, .inl (cZ, o_charts_n, .inl o_charts_f))] H → va_D A [(q_o_lows, .inl (cI, o_lows_n, .inl o_lows_f)), (q_o_highs, .inl (cI, o_highs_n, .inl o_highs_f)), (q_o_firsts, .inl (cI, o_firsts_n, .inl z32)), (q_o_changes, .inl (cI, o_changes_n, .inl z18)), (q_o, .inr (7, [.int 0, .int o_width, .int o_height, .ref q_o_former, .ref q_o_later, .ref q_o_charts, .ref q_o_lows, .ref q_o_highs, .int o_repeats, .int o_wide, .int o_floor, .int o_across, .int o_down, .long o_sum, .long o_many, .long u1_0, .long u1_1, .ref q_o_firsts, .ref q_o_changes, .int z16, .int o_spots, .int o_days, .ref q_o_dates, .ref q_o_kept])), (q_o_former, .inl (cI, o_former_n, .inl o_former_f)), (q_o_later, .inl (cI, o_later_n, .inl o_later_f)), (q_o_charts, .inl (cZ, o_charts_n, .inl o_charts_f))] → va_S A s.heap H locs → W p l e rm_Mod_run s m args below meth c H locs 0 0 Q (F0 m 175 ls []) := by
      intro y1_31 z32 H locs ls he hl hP hD hS
      have h := hx_19
      rw [he] at h
      try dsimp only at h
      refine lv_aload_n hx hb d_Mod_run_175 rfl (lv_at hl 1 rfl) ?_
      refine lv_iconst (v := 0) hx hb d_Mod_run_176 (by decide) ?_
      refine va_put (D := (dC, dI)) (ci := 7) (v := .int 0) (ty := .int) (C := R_Mod) (T := F_Mod) (N := 24) hx hb hts i_Mod t_Mod t_Mod_ok n_Mod hown hK hP hD hS 4 rfl rfl 20 (by decide) (hts _ k_628) (fun _ h9 => h9) rfl (by decide +kernel) rfl rfl (Nat.le_of_ble_eq_true rfl) d_Mod_run_177 (fun H locs hP hD hS => ?_)
      have hP : va_P (dC, dI) vwCl [(q_o_lows, .inl (cI, o_lows_n, .inl o_lows_f)), (q_o_highs, .inl (cI, o_highs_n, .inl o_highs_f)), (q_o_firsts, .inl (cI, o_firsts_n, .inl z32)), (q_o_changes, .inl (cI, o_changes_n, .inl z18)), (q_o, .inr (7, [.int 0, .int o_width, .int o_height, .ref q_o_former, .ref q_o_later, .ref q_o_charts, .ref q_o_lows, .ref q_o_highs, .int o_repeats, .int o_wide, .int o_floor, .int o_across, .int o_down, .long o_sum, .long o_many, .long u1_0, .long u1_1, .ref q_o_firsts, .ref q_o_changes, .int z16, .int 0, .int o_days, .ref q_o_dates, .ref q_o_kept])), (q_o_former, .inl (cI, o_former_n, .inl o_former_f)), (q_o_later, .inl (cI, o_later_n, .inl o_later_f)), (q_o_charts, .inl (cZ, o_charts_n, .inl o_charts_f))] H := hP
      have hD : va_D A [(q_o_lows, .inl (cI, o_lows_n, .inl o_lows_f)), (q_o_highs, .inl (cI, o_highs_n, .inl o_highs_f)), (q_o_firsts, .inl (cI, o_firsts_n, .inl z32)), (q_o_changes, .inl (cI, o_changes_n, .inl z18)), (q_o, .inr (7, [.int 0, .int o_width, .int o_height, .ref q_o_former, .ref q_o_later, .ref q_o_charts, .ref q_o_lows, .ref q_o_highs, .int o_repeats, .int o_wide, .int o_floor, .int o_across, .int o_down, .long o_sum, .long o_many, .long u1_0, .long u1_1, .ref q_o_firsts, .ref q_o_changes, .int z16, .int 0, .int o_days, .ref q_o_dates, .ref q_o_kept])), (q_o_former, .inl (cI, o_former_n, .inl o_former_f)), (q_o_later, .inl (cI, o_later_n, .inl o_later_f)), (q_o_charts, .inl (cZ, o_charts_n, .inl o_charts_f))] := hD
      refine lv_iconst (v := 0) hx hb d_Mod_run_180 (by decide) ?_
      refine lv_istore_n (lv' := [(2, .int 0), (1, .int y1_31), (0, .ref q_o)]) hx hb d_Mod_run_181 rfl hl (by decide) rfl (fun ls hl => ?_)
      obtain ⟨e_33, he_33, hx_33⟩ := pu_bd h
      obtain ⟨n_33, hn_33⟩ := pu_loop_it he_33
      have K_33 : ∀ (y2_36 : Int32) (z37 : Int32) (H : Heap) (locs : List Loc) (ls : Array Slot), e_33 = (y2_36, z37) → lv_has ls 3 [(2, .int y2_36), (1, .int y1_31), (0, .ref q_o)] → va_P (dC, dI) vwCl [(q_o_lows, .inl (cI, o_lows_n, .inl o_lows_f)), (q_o_highs, .inl (cI, o_highs_n, .inl o_highs_f)), (q_o_firsts, .inl (cI, o_firsts_n, .inl z32)), (q_o_changes, .inl (cI, o_changes_n, .inl z18)), (q_o, .inr (7, [.int 0, .int o_width, .int o_height, .ref q_o_former, .ref q_o_later, .ref q_o_charts, .ref q_o_lows, .ref q_o_highs, .int o_repeats, .int o_wide, .int o_floor, .int o_across, .int o_down, .long o_sum, .long o_many, .long u1_0, .long u1_1, .ref q_o_firsts, .ref q_o_changes, .int z16, .int z37, .int o_days, .ref q_o_dates, .ref q_o_kept])), (q_o_former, .inl (cI, o_former_n, .inl o_former_f)), (q_o_later, .inl (cI, o_later_n, .inl o_later_f)), (q_o_charts, .inl (cZ, o_charts_n, .inl o_charts_f))] H → va_D A [(q_o_lows, .inl (cI, o_lows_n, .inl o_lows_f)), (q_o_highs, .inl (cI, o_highs_n, .inl o_highs_f)), (q_o_firsts, .inl (cI, o_firsts_n, .inl z32)), (q_o_changes, .inl (cI, o_changes_n, .inl z18)), (q_o, .inr (7, [.int 0, .int o_width, .int o_height, .ref q_o_former, .ref q_o_later, .ref q_o_charts, .ref q_o_lows, .ref q_o_highs, .int o_repeats, .int o_wide, .int o_floor, .int o_across, .int o_down, .long o_sum, .long o_many, .long u1_0, .long u1_1, .ref q_o_firsts, .ref q_o_changes, .int z16, .int z37, .int o_days, .ref q_o_dates, .ref q_o_kept])), (q_o_former, .inl (cI, o_former_n, .inl o_former_f)), (q_o_later, .inl (cI, o_later_n, .inl o_later_f)), (q_o_charts, .inl (cZ, o_charts_n, .inl o_charts_f))] → va_S A s.heap H locs → W p l e rm_Mod_run s m args below meth c H locs 0 0 Q (F0 m 222 ls []) := by
        intro y2_36 z37 H locs ls he hl hP hD hS
        have h := hx_33
        rw [he] at h
        try dsimp only at h
        refine lv_aload_n hx hb d_Mod_run_222 rfl (lv_at hl 2 rfl) ?_
        refine va_get (D := (dC, dI)) (ci := 7) (v := .int z37) (C := R_Mod) (T := F_Mod) (N := 24) hx hb hts i_Mod hown hK hP 4 rfl rfl 20 (by decide) (hts _ k_628) (fun _ h9 => h9) rfl d_Mod_run_223 ?_
        cases h
        refine W.widen (k := 0) (n := 0) (Nat.le_of_ble_eq_true rfl) (Nat.le_of_ble_eq_true rfl) ?_
        exact RT 226 ls H locs _ d_Mod_run_226 (Or.inr (Or.inl ⟨rfl, _, rfl⟩)) rfl (hP.sub [4, 5, 6, 7, 0, 1, 2, 3] rfl) (hD.sub [4, 5, 6, 7, 0, 1, 2, 3] (by decide) rfl) hS
      have L_33 : ∀ (n : Nat) (x2_34 : Int32) (o_spots_35 : Int32) (H : Heap) (locs : List Loc) (ls : Array Slot), pu_it (p_Mod_run_L33 o_firsts_n z32) n (x2_34, o_spots_35) = some e_33 → lv_has ls 3 [(2, .int x2_34), (1, .int y1_31), (0, .ref q_o)] → va_P (dC, dI) vwCl [(q_o_lows, .inl (cI, o_lows_n, .inl o_lows_f)), (q_o_highs, .inl (cI, o_highs_n, .inl o_highs_f)), (q_o_firsts, .inl (cI, o_firsts_n, .inl z32)), (q_o_changes, .inl (cI, o_changes_n, .inl z18)), (q_o, .inr (7, [.int 0, .int o_width, .int o_height, .ref q_o_former, .ref q_o_later, .ref q_o_charts, .ref q_o_lows, .ref q_o_highs, .int o_repeats, .int o_wide, .int o_floor, .int o_across, .int o_down, .long o_sum, .long o_many, .long u1_0, .long u1_1, .ref q_o_firsts, .ref q_o_changes, .int z16, .int o_spots_35, .int o_days, .ref q_o_dates, .ref q_o_kept])), (q_o_former, .inl (cI, o_former_n, .inl o_former_f)), (q_o_later, .inl (cI, o_later_n, .inl o_later_f)), (q_o_charts, .inl (cZ, o_charts_n, .inl o_charts_f))] H → va_D A [(q_o_lows, .inl (cI, o_lows_n, .inl o_lows_f)), (q_o_highs, .inl (cI, o_highs_n, .inl o_highs_f)), (q_o_firsts, .inl (cI, o_firsts_n, .inl z32)), (q_o_changes, .inl (cI, o_changes_n, .inl z18)), (q_o, .inr (7, [.int 0, .int o_width, .int o_height, .ref q_o_former, .ref q_o_later, .ref q_o_charts, .ref q_o_lows, .ref q_o_highs, .int o_repeats, .int o_wide, .int o_floor, .int o_across, .int o_down, .long o_sum, .long o_many, .long u1_0, .long u1_1, .ref q_o_firsts, .ref q_o_changes, .int z16, .int o_spots_35, .int o_days, .ref q_o_dates, .ref q_o_kept])), (q_o_former, .inl (cI, o_former_n, .inl o_former_f)), (q_o_later, .inl (cI, o_later_n, .inl o_later_f)), (q_o_charts, .inl (cZ, o_charts_n, .inl o_charts_f))] → va_S A s.heap H locs → W p l e rm_Mod_run s m args below meth c H locs 0 0 Q (F0 m 182 ls []) := by
        intro n
        induction n with
        | zero => intro x2_34 o_spots_35 H locs ls hn; exact (pu_it_0 hn).elim
        | succ n ih =>
          intro x2_34 o_spots_35 H locs ls hn hl hP hD hS
          obtain ⟨r_33, h, hr_33⟩ := pu_it_succ hn
          unfold p_Mod_run_L33 at h
          try dsimp only at h
          refine lv_iload_n hx hb d_Mod_run_182 rfl (lv_at hl 0 rfl) ?_
          refine lv_sipush (v := 576) hx hb d_Mod_run_183 (by decide) ?_
          refine lv_icmp_ge (tgt := 222) hx hb d_Mod_run_186 (by decide) (fun hc => ?_) (fun hc => ?_)
          · have h := pu_t hc h
            cases h
            exact K_33 x2_34 o_spots_35 H locs ls hr_33.symm (lv_sub hl [0, 1, 2] rfl) (hP.sub [0, 1, 2, 3, 4, 5, 6, 7] rfl) (hD.sub [0, 1, 2, 3, 4, 5, 6, 7] (by decide) rfl) hS
          · have h := pu_f hc h
            refine lv_aload_n hx hb d_Mod_run_189 rfl (lv_at hl 2 rfl) ?_
            refine lv_aload_n hx hb d_Mod_run_190 rfl (lv_at hl 2 rfl) ?_
            refine va_get (D := (dC, dI)) (ci := 7) (v := .ref q_o_firsts) (C := R_Mod) (T := F_Mod) (N := 24) hx hb hts i_Mod hown hK hP 4 rfl rfl 17 (by decide) (hts _ k_625) (fun _ h9 => h9) rfl d_Mod_run_191 ?_
            refine lv_iload_n hx hb d_Mod_run_194 rfl (lv_at hl 0 rfl) ?_
            obtain ⟨hg, h⟩ := pu_g h
            refine va_iald hx hb hK hP 2 0 rfl rfl hg d_Mod_run_195 ?_
            refine lv_iload_n hx hb d_Mod_run_196 rfl (lv_at hl 0 rfl) ?_
            refine lv_icmp_ne (tgt := 209) hx hb d_Mod_run_197 (by decide) (fun hc => ?_) (fun hc => ?_)
            · have h := pu_f hc h
              refine lv_aload_n hx hb d_Mod_run_209 rfl (lv_at hl 2 rfl) ?_
              refine va_get (D := (dC, dI)) (ci := 7) (v := .int o_spots_35) (C := R_Mod) (T := F_Mod) (N := 24) hx hb hts i_Mod hown hK hP 4 rfl rfl 20 (by decide) (hts _ k_628) (fun _ h9 => h9) rfl d_Mod_run_210 ?_
              refine va_put (D := (dC, dI)) (ci := 7) (v := .int o_spots_35) (ty := .int) (C := R_Mod) (T := F_Mod) (N := 24) hx hb hts i_Mod t_Mod t_Mod_ok n_Mod hown hK hP hD hS 4 rfl rfl 20 (by decide) (hts _ k_628) (fun _ h9 => h9) rfl (by decide +kernel) rfl rfl (Nat.le_of_ble_eq_true rfl) d_Mod_run_213 (fun H locs hP hD hS => ?_)
              have hP : va_P (dC, dI) vwCl [(q_o_lows, .inl (cI, o_lows_n, .inl o_lows_f)), (q_o_highs, .inl (cI, o_highs_n, .inl o_highs_f)), (q_o_firsts, .inl (cI, o_firsts_n, .inl z32)), (q_o_changes, .inl (cI, o_changes_n, .inl z18)), (q_o, .inr (7, [.int 0, .int o_width, .int o_height, .ref q_o_former, .ref q_o_later, .ref q_o_charts, .ref q_o_lows, .ref q_o_highs, .int o_repeats, .int o_wide, .int o_floor, .int o_across, .int o_down, .long o_sum, .long o_many, .long u1_0, .long u1_1, .ref q_o_firsts, .ref q_o_changes, .int z16, .int o_spots_35, .int o_days, .ref q_o_dates, .ref q_o_kept])), (q_o_former, .inl (cI, o_former_n, .inl o_former_f)), (q_o_later, .inl (cI, o_later_n, .inl o_later_f)), (q_o_charts, .inl (cZ, o_charts_n, .inl o_charts_f))] H := hP
              have hD : va_D A [(q_o_lows, .inl (cI, o_lows_n, .inl o_lows_f)), (q_o_highs, .inl (cI, o_highs_n, .inl o_highs_f)), (q_o_firsts, .inl (cI, o_firsts_n, .inl z32)), (q_o_changes, .inl (cI, o_changes_n, .inl z18)), (q_o, .inr (7, [.int 0, .int o_width, .int o_height, .ref q_o_former, .ref q_o_later, .ref q_o_charts, .ref q_o_lows, .ref q_o_highs, .int o_repeats, .int o_wide, .int o_floor, .int o_across, .int o_down, .long o_sum, .long o_many, .long u1_0, .long u1_1, .ref q_o_firsts, .ref q_o_changes, .int z16, .int o_spots_35, .int o_days, .ref q_o_dates, .ref q_o_kept])), (q_o_former, .inl (cI, o_former_n, .inl o_former_f)), (q_o_later, .inl (cI, o_later_n, .inl o_later_f)), (q_o_charts, .inl (cZ, o_charts_n, .inl o_charts_f))] := hD
              refine lv_iinc (v := (x2_34 + 1)) (lv' := [(2, .int (x2_34 + 1)), (1, .int y1_31), (0, .ref q_o)]) hx hb d_Mod_run_216 hl (k := 0) rfl rfl (by decide) rfl (fun ls hl => ?_)
              refine lv_goto (tgt := 182) hx hb d_Mod_run_219 (by decide) ?_
              cases h
              exact ih (x2_34 + 1) o_spots_35 H locs ls hr_33 (lv_sub hl [0, 1, 2] rfl) (hP.sub [0, 1, 2, 3, 4, 5, 6, 7] rfl) (hD.sub [0, 1, 2, 3, 4, 5, 6, 7] (by decide) rfl) hS
            · have h := pu_t hc h
              refine lv_aload_n hx hb d_Mod_run_200 rfl (lv_at hl 2 rfl) ?_
              refine va_get (D := (dC, dI)) (ci := 7) (v := .int o_spots_35) (C := R_Mod) (T := F_Mod) (N := 24) hx hb hts i_Mod hown hK hP 4 rfl rfl 20 (by decide) (hts _ k_628) (fun _ h9 => h9) rfl d_Mod_run_201 ?_
              refine lv_iconst (v := 1) hx hb d_Mod_run_204 (by decide) ?_
              refine lv_iadd hx hb d_Mod_run_205 ?_
              refine lv_goto (tgt := 213) hx hb d_Mod_run_206 (by decide) ?_
              refine va_put (D := (dC, dI)) (ci := 7) (v := .int (o_spots_35 + 1)) (ty := .int) (C := R_Mod) (T := F_Mod) (N := 24) hx hb hts i_Mod t_Mod t_Mod_ok n_Mod hown hK hP hD hS 4 rfl rfl 20 (by decide) (hts _ k_628) (fun _ h9 => h9) rfl (by decide +kernel) rfl rfl (Nat.le_of_ble_eq_true rfl) d_Mod_run_213 (fun H locs hP hD hS => ?_)
              have hP : va_P (dC, dI) vwCl [(q_o_lows, .inl (cI, o_lows_n, .inl o_lows_f)), (q_o_highs, .inl (cI, o_highs_n, .inl o_highs_f)), (q_o_firsts, .inl (cI, o_firsts_n, .inl z32)), (q_o_changes, .inl (cI, o_changes_n, .inl z18)), (q_o, .inr (7, [.int 0, .int o_width, .int o_height, .ref q_o_former, .ref q_o_later, .ref q_o_charts, .ref q_o_lows, .ref q_o_highs, .int o_repeats, .int o_wide, .int o_floor, .int o_across, .int o_down, .long o_sum, .long o_many, .long u1_0, .long u1_1, .ref q_o_firsts, .ref q_o_changes, .int z16, .int (o_spots_35 + 1), .int o_days, .ref q_o_dates, .ref q_o_kept])), (q_o_former, .inl (cI, o_former_n, .inl o_former_f)), (q_o_later, .inl (cI, o_later_n, .inl o_later_f)), (q_o_charts, .inl (cZ, o_charts_n, .inl o_charts_f))] H := hP
              have hD : va_D A [(q_o_lows, .inl (cI, o_lows_n, .inl o_lows_f)), (q_o_highs, .inl (cI, o_highs_n, .inl o_highs_f)), (q_o_firsts, .inl (cI, o_firsts_n, .inl z32)), (q_o_changes, .inl (cI, o_changes_n, .inl z18)), (q_o, .inr (7, [.int 0, .int o_width, .int o_height, .ref q_o_former, .ref q_o_later, .ref q_o_charts, .ref q_o_lows, .ref q_o_highs, .int o_repeats, .int o_wide, .int o_floor, .int o_across, .int o_down, .long o_sum, .long o_many, .long u1_0, .long u1_1, .ref q_o_firsts, .ref q_o_changes, .int z16, .int (o_spots_35 + 1), .int o_days, .ref q_o_dates, .ref q_o_kept])), (q_o_former, .inl (cI, o_former_n, .inl o_former_f)), (q_o_later, .inl (cI, o_later_n, .inl o_later_f)), (q_o_charts, .inl (cZ, o_charts_n, .inl o_charts_f))] := hD
              refine lv_iinc (v := (x2_34 + 1)) (lv' := [(2, .int (x2_34 + 1)), (1, .int y1_31), (0, .ref q_o)]) hx hb d_Mod_run_216 hl (k := 0) rfl rfl (by decide) rfl (fun ls hl => ?_)
              refine lv_goto (tgt := 182) hx hb d_Mod_run_219 (by decide) ?_
              cases h
              exact ih (x2_34 + 1) (o_spots_35 + 1) H locs ls hr_33 (lv_sub hl [0, 1, 2] rfl) (hP.sub [0, 1, 2, 3, 4, 5, 6, 7] rfl) (hD.sub [0, 1, 2, 3, 4, 5, 6, 7] (by decide) rfl) hS
      exact L_33 n_33 0 0 H locs ls hn_33 hl hP hD hS
    have L_19 : ∀ (n : Nat) (x1_20 : Int32) (o_firsts_f_21 : Nat → Int32) (H : Heap) (locs : List Loc) (ls : Array Slot), pu_it (p_Mod_run_L19 o_width o_height o_repeats o_wide o_floor o_across o_down o_sum o_many o_spots o_days o_firsts_n u1_0 u1_1 z16) n (x1_20, o_firsts_f_21) = some e_19 → lv_has ls 3 [(1, .int x1_20), (0, .ref q_o)] → va_P (dC, dI) vwCl [(q_o_lows, .inl (cI, o_lows_n, .inl o_lows_f)), (q_o_highs, .inl (cI, o_highs_n, .inl o_highs_f)), (q_o_firsts, .inl (cI, o_firsts_n, .inl o_firsts_f_21)), (q_o_changes, .inl (cI, o_changes_n, .inl z18)), (q_o, .inr (7, [.int 0, .int o_width, .int o_height, .ref q_o_former, .ref q_o_later, .ref q_o_charts, .ref q_o_lows, .ref q_o_highs, .int o_repeats, .int o_wide, .int o_floor, .int o_across, .int o_down, .long o_sum, .long o_many, .long u1_0, .long u1_1, .ref q_o_firsts, .ref q_o_changes, .int z16, .int o_spots, .int o_days, .ref q_o_dates, .ref q_o_kept])), (q_o_former, .inl (cI, o_former_n, .inl o_former_f)), (q_o_later, .inl (cI, o_later_n, .inl o_later_f)), (q_o_charts, .inl (cZ, o_charts_n, .inl o_charts_f))] H → va_D A [(q_o_lows, .inl (cI, o_lows_n, .inl o_lows_f)), (q_o_highs, .inl (cI, o_highs_n, .inl o_highs_f)), (q_o_firsts, .inl (cI, o_firsts_n, .inl o_firsts_f_21)), (q_o_changes, .inl (cI, o_changes_n, .inl z18)), (q_o, .inr (7, [.int 0, .int o_width, .int o_height, .ref q_o_former, .ref q_o_later, .ref q_o_charts, .ref q_o_lows, .ref q_o_highs, .int o_repeats, .int o_wide, .int o_floor, .int o_across, .int o_down, .long o_sum, .long o_many, .long u1_0, .long u1_1, .ref q_o_firsts, .ref q_o_changes, .int z16, .int o_spots, .int o_days, .ref q_o_dates, .ref q_o_kept])), (q_o_former, .inl (cI, o_former_n, .inl o_former_f)), (q_o_later, .inl (cI, o_later_n, .inl o_later_f)), (q_o_charts, .inl (cZ, o_charts_n, .inl o_charts_f))] → va_S A s.heap H locs → W p l e rm_Mod_run s m args below meth c H locs 0 0 Q (F0 m 114 ls []) := by
      intro n
      induction n with
      | zero => intro x1_20 o_firsts_f_21 H locs ls hn; exact (pu_it_0 hn).elim
      | succ n ih =>
        intro x1_20 o_firsts_f_21 H locs ls hn hl hP hD hS
        obtain ⟨r_19, h, hr_19⟩ := pu_it_succ hn
        unfold p_Mod_run_L19 at h
        try dsimp only at h
        refine lv_iload_n hx hb d_Mod_run_114 rfl (lv_at hl 0 rfl) ?_
        refine lv_if_eq (tgt := 175) hx hb d_Mod_run_115 (by decide) (fun hc => ?_) (fun hc => ?_)
        · have h := pu_t hc h
          cases h
          exact K_19 x1_20 o_firsts_f_21 H locs ls hr_19.symm (lv_sub hl [0, 1] rfl) (hP.sub [0, 1, 2, 3, 4, 5, 6, 7] rfl) (hD.sub [0, 1, 2, 3, 4, 5, 6, 7] (by decide) rfl) hS
        · have h := pu_f hc h
          refine lv_iconst (v := 0) hx hb d_Mod_run_118 (by decide) ?_
          refine lv_istore_n (lv' := [(1, .int 0), (0, .ref q_o)]) hx hb d_Mod_run_119 rfl hl (by decide) rfl (fun ls hl => ?_)
          refine lv_iconst (v := 0) hx hb d_Mod_run_120 (by decide) ?_
          refine lv_istore_n (lv' := [(2, .int 0), (1, .int 0), (0, .ref q_o)]) hx hb d_Mod_run_121 rfl hl (by decide) rfl (fun ls hl => ?_)
          obtain ⟨e_22, he_22, hx_22⟩ := pu_bd h
          obtain ⟨n_22, hn_22⟩ := pu_loop_it he_22
          have K_22 : ∀ (y1_28 : Int32) (y2_29 : Int32) (z30 : Nat → Int32) (H : Heap) (locs : List Loc) (ls : Array Slot), e_22 = (y1_28, y2_29, z30) → lv_has ls 3 [(2, .int y2_29), (1, .int y1_28), (0, .ref q_o)] → va_P (dC, dI) vwCl [(q_o_lows, .inl (cI, o_lows_n, .inl o_lows_f)), (q_o_highs, .inl (cI, o_highs_n, .inl o_highs_f)), (q_o_firsts, .inl (cI, o_firsts_n, .inl z30)), (q_o_changes, .inl (cI, o_changes_n, .inl z18)), (q_o, .inr (7, [.int 0, .int o_width, .int o_height, .ref q_o_former, .ref q_o_later, .ref q_o_charts, .ref q_o_lows, .ref q_o_highs, .int o_repeats, .int o_wide, .int o_floor, .int o_across, .int o_down, .long o_sum, .long o_many, .long u1_0, .long u1_1, .ref q_o_firsts, .ref q_o_changes, .int z16, .int o_spots, .int o_days, .ref q_o_dates, .ref q_o_kept])), (q_o_former, .inl (cI, o_former_n, .inl o_former_f)), (q_o_later, .inl (cI, o_later_n, .inl o_later_f)), (q_o_charts, .inl (cZ, o_charts_n, .inl o_charts_f))] H → va_D A [(q_o_lows, .inl (cI, o_lows_n, .inl o_lows_f)), (q_o_highs, .inl (cI, o_highs_n, .inl o_highs_f)), (q_o_firsts, .inl (cI, o_firsts_n, .inl z30)), (q_o_changes, .inl (cI, o_changes_n, .inl z18)), (q_o, .inr (7, [.int 0, .int o_width, .int o_height, .ref q_o_former, .ref q_o_later, .ref q_o_charts, .ref q_o_lows, .ref q_o_highs, .int o_repeats, .int o_wide, .int o_floor, .int o_across, .int o_down, .long o_sum, .long o_many, .long u1_0, .long u1_1, .ref q_o_firsts, .ref q_o_changes, .int z16, .int o_spots, .int o_days, .ref q_o_dates, .ref q_o_kept])), (q_o_former, .inl (cI, o_former_n, .inl o_former_f)), (q_o_later, .inl (cI, o_later_n, .inl o_later_f)), (q_o_charts, .inl (cZ, o_charts_n, .inl o_charts_f))] → va_S A s.heap H locs → W p l e rm_Mod_run s m args below meth c H locs 0 0 Q (F0 m 172 ls []) := by
            intro y1_28 y2_29 z30 H locs ls he hl hP hD hS
            have h := hx_22
            rw [he] at h
            try dsimp only at h
            refine lv_goto (tgt := 114) hx hb d_Mod_run_172 (by decide) ?_
            cases h
            exact ih y1_28 z30 H locs ls hr_19 (lv_sub hl [1, 2] rfl) (hP.sub [0, 1, 2, 3, 4, 5, 6, 7] rfl) (hD.sub [0, 1, 2, 3, 4, 5, 6, 7] (by decide) rfl) hS
          have L_22 : ∀ (n : Nat) (x1_23 : Int32) (x2_24 : Int32) (o_firsts_f_25 : Nat → Int32) (H : Heap) (locs : List Loc) (ls : Array Slot), pu_it (p_Mod_run_L22 o_width o_height o_repeats o_wide o_floor o_across o_down o_sum o_many o_spots o_days o_firsts_n u1_0 u1_1 z16) n (x1_23, x2_24, o_firsts_f_25) = some e_22 → lv_has ls 3 [(2, .int x2_24), (1, .int x1_23), (0, .ref q_o)] → va_P (dC, dI) vwCl [(q_o_lows, .inl (cI, o_lows_n, .inl o_lows_f)), (q_o_highs, .inl (cI, o_highs_n, .inl o_highs_f)), (q_o_firsts, .inl (cI, o_firsts_n, .inl o_firsts_f_25)), (q_o_changes, .inl (cI, o_changes_n, .inl z18)), (q_o, .inr (7, [.int 0, .int o_width, .int o_height, .ref q_o_former, .ref q_o_later, .ref q_o_charts, .ref q_o_lows, .ref q_o_highs, .int o_repeats, .int o_wide, .int o_floor, .int o_across, .int o_down, .long o_sum, .long o_many, .long u1_0, .long u1_1, .ref q_o_firsts, .ref q_o_changes, .int z16, .int o_spots, .int o_days, .ref q_o_dates, .ref q_o_kept])), (q_o_former, .inl (cI, o_former_n, .inl o_former_f)), (q_o_later, .inl (cI, o_later_n, .inl o_later_f)), (q_o_charts, .inl (cZ, o_charts_n, .inl o_charts_f))] H → va_D A [(q_o_lows, .inl (cI, o_lows_n, .inl o_lows_f)), (q_o_highs, .inl (cI, o_highs_n, .inl o_highs_f)), (q_o_firsts, .inl (cI, o_firsts_n, .inl o_firsts_f_25)), (q_o_changes, .inl (cI, o_changes_n, .inl z18)), (q_o, .inr (7, [.int 0, .int o_width, .int o_height, .ref q_o_former, .ref q_o_later, .ref q_o_charts, .ref q_o_lows, .ref q_o_highs, .int o_repeats, .int o_wide, .int o_floor, .int o_across, .int o_down, .long o_sum, .long o_many, .long u1_0, .long u1_1, .ref q_o_firsts, .ref q_o_changes, .int z16, .int o_spots, .int o_days, .ref q_o_dates, .ref q_o_kept])), (q_o_former, .inl (cI, o_former_n, .inl o_former_f)), (q_o_later, .inl (cI, o_later_n, .inl o_later_f)), (q_o_charts, .inl (cZ, o_charts_n, .inl o_charts_f))] → va_S A s.heap H locs → W p l e rm_Mod_run s m args below meth c H locs 0 0 Q (F0 m 122 ls []) := by
            intro n
            induction n with
            | zero => intro x1_23 x2_24 o_firsts_f_25 H locs ls hn; exact (pu_it_0 hn).elim
            | succ n ih =>
              intro x1_23 x2_24 o_firsts_f_25 H locs ls hn hl hP hD hS
              obtain ⟨r_22, h, hr_22⟩ := pu_it_succ hn
              unfold p_Mod_run_L22 at h
              try dsimp only at h
              refine lv_iload_n hx hb d_Mod_run_122 rfl (lv_at hl 0 rfl) ?_
              refine lv_sipush (v := 576) hx hb d_Mod_run_123 (by decide) ?_
              refine lv_icmp_ge (tgt := 172) hx hb d_Mod_run_126 (by decide) (fun hc => ?_) (fun hc => ?_)
              · have h := pu_t hc h
                cases h
                exact K_22 x1_23 x2_24 o_firsts_f_25 H locs ls hr_22.symm (lv_sub hl [0, 1, 2] rfl) (hP.sub [0, 1, 2, 3, 4, 5, 6, 7] rfl) (hD.sub [0, 1, 2, 3, 4, 5, 6, 7] (by decide) rfl) hS
              · have h := pu_f hc h
                refine lv_aload_n hx hb d_Mod_run_129 rfl (lv_at hl 2 rfl) ?_
                refine va_get (D := (dC, dI)) (ci := 7) (v := .ref q_o_firsts) (C := R_Mod) (T := F_Mod) (N := 24) hx hb hts i_Mod hown hK hP 4 rfl rfl 17 (by decide) (hts _ k_625) (fun _ h9 => h9) rfl d_Mod_run_130 ?_
                refine lv_iload_n hx hb d_Mod_run_133 rfl (lv_at hl 0 rfl) ?_
                obtain ⟨hg, h⟩ := pu_g h
                refine va_iald hx hb hK hP 2 0 rfl rfl hg d_Mod_run_134 ?_
                refine lv_iconst (v := (-1)) hx hb d_Mod_run_135 (by decide) ?_
                refine lv_icmp_eq (tgt := 166) hx hb d_Mod_run_136 (by decide) (fun hc => ?_) (fun hc => ?_)
                · have h := pu_t hc h
                  refine lv_iinc (v := (x2_24 + 1)) (lv' := [(2, .int (x2_24 + 1)), (1, .int x1_23), (0, .ref q_o)]) hx hb d_Mod_run_166 hl (k := 0) rfl rfl (by decide) rfl (fun ls hl => ?_)
                  refine lv_goto (tgt := 122) hx hb d_Mod_run_169 (by decide) ?_
                  cases h
                  exact ih x1_23 (x2_24 + 1) o_firsts_f_25 H locs ls hr_22 (lv_sub hl [0, 1, 2] rfl) (hP.sub [0, 1, 2, 3, 4, 5, 6, 7] rfl) (hD.sub [0, 1, 2, 3, 4, 5, 6, 7] (by decide) rfl) hS
                · have h := pu_f hc h
                  refine lv_aload_n hx hb d_Mod_run_139 rfl (lv_at hl 2 rfl) ?_
                  refine lv_iload_n hx hb d_Mod_run_140 rfl (lv_at hl 0 rfl) ?_
                  obtain ⟨v26, hu26, h⟩ := pu_bd h
                  refine cc_V (As := [.int x2_24]) (rest := []) ⟨hx, hb, hml, hown, hts⟩ (c_Mod_lowest l dC dI cI cJ cZ q_o q_o_former q_o_later q_o_charts q_o_lows q_o_highs q_o_firsts q_o_changes q_o_dates q_o_kept x2_24 0 o_width o_height o_repeats o_wide o_floor o_across o_down o_sum o_many u1_0 u1_1 z16 o_spots o_days o_firsts_n o_firsts_f_25 v26 hu26) (cwV 1 hts (gV k_773 k_775 kp_24 k_9 k_776 rfl) rfl rfl rfl hdV_Mod_lowest ⟨Nat.le_of_ble_eq_true rfl, Nat.le_of_ble_eq_true rfl⟩) hK hN hP hD hS hA [4, 2] [0, 1, 3, 5, 6, 7] (w0 := [(q_o, .inr (7, [.int 0, .int o_width, .int o_height, .ref q_o_former, .ref q_o_later, .ref q_o_charts, .ref q_o_lows, .ref q_o_highs, .int o_repeats, .int o_wide, .int o_floor, .int o_across, .int o_down, .long o_sum, .long o_many, .long u1_0, .long u1_1, .ref q_o_firsts, .ref q_o_changes, .int z16, .int o_spots, .int o_days, .ref q_o_dates, .ref q_o_kept])), (q_o_firsts, .inl (cI, o_firsts_n, .inl o_firsts_f_25))]) (wr := [(q_o_lows, .inl (cI, o_lows_n, .inl o_lows_f)), (q_o_highs, .inl (cI, o_highs_n, .inl o_highs_f)), (q_o_changes, .inl (cI, o_changes_n, .inl z18)), (q_o_former, .inl (cI, o_former_n, .inl o_former_f)), (q_o_later, .inl (cI, o_later_n, .inl o_later_f)), (q_o_charts, .inl (cZ, o_charts_n, .inl o_charts_f))]) rfl rfl (by decide) (by decide) (by decide) 7 rfl rfl rfl hl.1 rfl (Nat.le_of_ble_eq_true rfl) d_Mod_run_141 ⟨Nat.le_of_ble_eq_true rfl, Nat.le_of_ble_eq_true rfl⟩ (fun w1 H locs hw1 hP hD hS => ?_)
                  subst hw1
                  have hP : va_P (dC, dI) vwCl [(q_o_lows, .inl (cI, o_lows_n, .inl o_lows_f)), (q_o_highs, .inl (cI, o_highs_n, .inl o_highs_f)), (q_o_changes, .inl (cI, o_changes_n, .inl z18)), (q_o_former, .inl (cI, o_former_n, .inl o_former_f)), (q_o_later, .inl (cI, o_later_n, .inl o_later_f)), (q_o_charts, .inl (cZ, o_charts_n, .inl o_charts_f)), (q_o, .inr (7, [.int 0, .int o_width, .int o_height, .ref q_o_former, .ref q_o_later, .ref q_o_charts, .ref q_o_lows, .ref q_o_highs, .int o_repeats, .int o_wide, .int o_floor, .int o_across, .int o_down, .long o_sum, .long o_many, .long u1_0, .long u1_1, .ref q_o_firsts, .ref q_o_changes, .int z16, .int o_spots, .int o_days, .ref q_o_dates, .ref q_o_kept])), (q_o_firsts, .inl (cI, o_firsts_n, .inl o_firsts_f_25))] H := hP
                  have hD : va_D A [(q_o_lows, .inl (cI, o_lows_n, .inl o_lows_f)), (q_o_highs, .inl (cI, o_highs_n, .inl o_highs_f)), (q_o_changes, .inl (cI, o_changes_n, .inl z18)), (q_o_former, .inl (cI, o_former_n, .inl o_former_f)), (q_o_later, .inl (cI, o_later_n, .inl o_later_f)), (q_o_charts, .inl (cZ, o_charts_n, .inl o_charts_f)), (q_o, .inr (7, [.int 0, .int o_width, .int o_height, .ref q_o_former, .ref q_o_later, .ref q_o_charts, .ref q_o_lows, .ref q_o_highs, .int o_repeats, .int o_wide, .int o_floor, .int o_across, .int o_down, .long o_sum, .long o_many, .long u1_0, .long u1_1, .ref q_o_firsts, .ref q_o_changes, .int z16, .int o_spots, .int o_days, .ref q_o_dates, .ref q_o_kept])), (q_o_firsts, .inl (cI, o_firsts_n, .inl o_firsts_f_25))] := hD
                  refine lv_aload_n hx hb d_Mod_run_144 rfl (lv_at hl 2 rfl) ?_
                  refine va_get (D := (dC, dI)) (ci := 7) (v := .ref q_o_firsts) (C := R_Mod) (T := F_Mod) (N := 24) hx hb hts i_Mod hown hK hP 6 rfl rfl 17 (by decide) (hts _ k_625) (fun _ h9 => h9) rfl d_Mod_run_145 ?_
                  refine lv_iload_n hx hb d_Mod_run_148 rfl (lv_at hl 0 rfl) ?_
                  obtain ⟨hg, h⟩ := pu_g h
                  refine va_iald hx hb hK hP 7 0 rfl rfl hg d_Mod_run_149 ?_
                  refine lv_icmp_ge (tgt := 166) hx hb d_Mod_run_150 (by decide) (fun hc => ?_) (fun hc => ?_)
                  · have h := pu_t hc h
                    refine lv_iinc (v := (x2_24 + 1)) (lv' := [(2, .int (x2_24 + 1)), (1, .int x1_23), (0, .ref q_o)]) hx hb d_Mod_run_166 hl (k := 0) rfl rfl (by decide) rfl (fun ls hl => ?_)
                    refine lv_goto (tgt := 122) hx hb d_Mod_run_169 (by decide) ?_
                    cases h
                    exact ih x1_23 (x2_24 + 1) o_firsts_f_25 H locs ls hr_22 (lv_sub hl [0, 1, 2] rfl) (hP.sub [0, 1, 7, 2, 6, 3, 4, 5] rfl) (hD.sub [0, 1, 7, 2, 6, 3, 4, 5] (by decide) rfl) hS
                  · have h := pu_f hc h
                    refine lv_aload_n hx hb d_Mod_run_153 rfl (lv_at hl 2 rfl) ?_
                    refine va_get (D := (dC, dI)) (ci := 7) (v := .ref q_o_firsts) (C := R_Mod) (T := F_Mod) (N := 24) hx hb hts i_Mod hown hK hP 6 rfl rfl 17 (by decide) (hts _ k_625) (fun _ h9 => h9) rfl d_Mod_run_154 ?_
                    refine lv_iload_n hx hb d_Mod_run_157 rfl (lv_at hl 0 rfl) ?_
                    refine lv_aload_n hx hb d_Mod_run_158 rfl (lv_at hl 2 rfl) ?_
                    refine lv_iload_n hx hb d_Mod_run_159 rfl (lv_at hl 0 rfl) ?_
                    obtain ⟨v27, hu27, h⟩ := pu_bd h
                    refine cc_V (As := [.int x2_24]) (rest := [.int x2_24, .ref q_o_firsts]) ⟨hx, hb, hml, hown, hts⟩ (c_Mod_lowest l dC dI cI cJ cZ q_o q_o_former q_o_later q_o_charts q_o_lows q_o_highs q_o_firsts q_o_changes q_o_dates q_o_kept x2_24 0 o_width o_height o_repeats o_wide o_floor o_across o_down o_sum o_many u1_0 u1_1 z16 o_spots o_days o_firsts_n o_firsts_f_25 v27 hu27) (cwV 1 hts (gV k_773 k_775 kp_24 k_9 k_776 rfl) rfl rfl rfl hdV_Mod_lowest ⟨Nat.le_of_ble_eq_true rfl, Nat.le_of_ble_eq_true rfl⟩) hK hN hP hD hS hA [6, 7] [0, 1, 2, 3, 4, 5] (w0 := [(q_o, .inr (7, [.int 0, .int o_width, .int o_height, .ref q_o_former, .ref q_o_later, .ref q_o_charts, .ref q_o_lows, .ref q_o_highs, .int o_repeats, .int o_wide, .int o_floor, .int o_across, .int o_down, .long o_sum, .long o_many, .long u1_0, .long u1_1, .ref q_o_firsts, .ref q_o_changes, .int z16, .int o_spots, .int o_days, .ref q_o_dates, .ref q_o_kept])), (q_o_firsts, .inl (cI, o_firsts_n, .inl o_firsts_f_25))]) (wr := [(q_o_lows, .inl (cI, o_lows_n, .inl o_lows_f)), (q_o_highs, .inl (cI, o_highs_n, .inl o_highs_f)), (q_o_changes, .inl (cI, o_changes_n, .inl z18)), (q_o_former, .inl (cI, o_former_n, .inl o_former_f)), (q_o_later, .inl (cI, o_later_n, .inl o_later_f)), (q_o_charts, .inl (cZ, o_charts_n, .inl o_charts_f))]) rfl rfl (by decide) (by decide) (by decide) 7 rfl rfl rfl hl.1 rfl (Nat.le_of_ble_eq_true rfl) d_Mod_run_160 ⟨Nat.le_of_ble_eq_true rfl, Nat.le_of_ble_eq_true rfl⟩ (fun w1 H locs hw1 hP hD hS => ?_)
                    subst hw1
                    have hP : va_P (dC, dI) vwCl [(q_o_lows, .inl (cI, o_lows_n, .inl o_lows_f)), (q_o_highs, .inl (cI, o_highs_n, .inl o_highs_f)), (q_o_changes, .inl (cI, o_changes_n, .inl z18)), (q_o_former, .inl (cI, o_former_n, .inl o_former_f)), (q_o_later, .inl (cI, o_later_n, .inl o_later_f)), (q_o_charts, .inl (cZ, o_charts_n, .inl o_charts_f)), (q_o, .inr (7, [.int 0, .int o_width, .int o_height, .ref q_o_former, .ref q_o_later, .ref q_o_charts, .ref q_o_lows, .ref q_o_highs, .int o_repeats, .int o_wide, .int o_floor, .int o_across, .int o_down, .long o_sum, .long o_many, .long u1_0, .long u1_1, .ref q_o_firsts, .ref q_o_changes, .int z16, .int o_spots, .int o_days, .ref q_o_dates, .ref q_o_kept])), (q_o_firsts, .inl (cI, o_firsts_n, .inl o_firsts_f_25))] H := hP
                    have hD : va_D A [(q_o_lows, .inl (cI, o_lows_n, .inl o_lows_f)), (q_o_highs, .inl (cI, o_highs_n, .inl o_highs_f)), (q_o_changes, .inl (cI, o_changes_n, .inl z18)), (q_o_former, .inl (cI, o_former_n, .inl o_former_f)), (q_o_later, .inl (cI, o_later_n, .inl o_later_f)), (q_o_charts, .inl (cZ, o_charts_n, .inl o_charts_f)), (q_o, .inr (7, [.int 0, .int o_width, .int o_height, .ref q_o_former, .ref q_o_later, .ref q_o_charts, .ref q_o_lows, .ref q_o_highs, .int o_repeats, .int o_wide, .int o_floor, .int o_across, .int o_down, .long o_sum, .long o_many, .long u1_0, .long u1_1, .ref q_o_firsts, .ref q_o_changes, .int z16, .int o_spots, .int o_days, .ref q_o_dates, .ref q_o_kept])), (q_o_firsts, .inl (cI, o_firsts_n, .inl o_firsts_f_25))] := hD
                    obtain ⟨hg, h⟩ := pu_g h
                    refine va_iast hx hb hK hP hD hS 7 0 rfl rfl hg d_Mod_run_163 (fun H locs hP hD hS => ?_)
                    have hP : va_P (dC, dI) vwCl [(q_o_lows, .inl (cI, o_lows_n, .inl o_lows_f)), (q_o_highs, .inl (cI, o_highs_n, .inl o_highs_f)), (q_o_changes, .inl (cI, o_changes_n, .inl z18)), (q_o_former, .inl (cI, o_former_n, .inl o_former_f)), (q_o_later, .inl (cI, o_later_n, .inl o_later_f)), (q_o_charts, .inl (cZ, o_charts_n, .inl o_charts_f)), (q_o, .inr (7, [.int 0, .int o_width, .int o_height, .ref q_o_former, .ref q_o_later, .ref q_o_charts, .ref q_o_lows, .ref q_o_highs, .int o_repeats, .int o_wide, .int o_floor, .int o_across, .int o_down, .long o_sum, .long o_many, .long u1_0, .long u1_1, .ref q_o_firsts, .ref q_o_changes, .int z16, .int o_spots, .int o_days, .ref q_o_dates, .ref q_o_kept])), (q_o_firsts, .inl (cI, o_firsts_n, .inl (upd o_firsts_f_25 x2_24.toNatClampNeg v27)))] H := hP
                    have hD : va_D A [(q_o_lows, .inl (cI, o_lows_n, .inl o_lows_f)), (q_o_highs, .inl (cI, o_highs_n, .inl o_highs_f)), (q_o_changes, .inl (cI, o_changes_n, .inl z18)), (q_o_former, .inl (cI, o_former_n, .inl o_former_f)), (q_o_later, .inl (cI, o_later_n, .inl o_later_f)), (q_o_charts, .inl (cZ, o_charts_n, .inl o_charts_f)), (q_o, .inr (7, [.int 0, .int o_width, .int o_height, .ref q_o_former, .ref q_o_later, .ref q_o_charts, .ref q_o_lows, .ref q_o_highs, .int o_repeats, .int o_wide, .int o_floor, .int o_across, .int o_down, .long o_sum, .long o_many, .long u1_0, .long u1_1, .ref q_o_firsts, .ref q_o_changes, .int z16, .int o_spots, .int o_days, .ref q_o_dates, .ref q_o_kept])), (q_o_firsts, .inl (cI, o_firsts_n, .inl (upd o_firsts_f_25 x2_24.toNatClampNeg v27)))] := hD
                    refine lv_iconst (v := 1) hx hb d_Mod_run_164 (by decide) ?_
                    refine lv_istore_n (lv' := [(1, .int 1), (2, .int x2_24), (0, .ref q_o)]) hx hb d_Mod_run_165 rfl hl (by decide) rfl (fun ls hl => ?_)
                    refine lv_iinc (v := (x2_24 + 1)) (lv' := [(2, .int (x2_24 + 1)), (1, .int 1), (0, .ref q_o)]) hx hb d_Mod_run_166 hl (k := 1) rfl rfl (by decide) rfl (fun ls hl => ?_)
                    refine lv_goto (tgt := 122) hx hb d_Mod_run_169 (by decide) ?_
                    cases h
                    exact ih 1 (x2_24 + 1) (upd o_firsts_f_25 x2_24.toNatClampNeg v27) H locs ls hr_22 (lv_sub hl [0, 1, 2] rfl) (hP.sub [0, 1, 7, 2, 6, 3, 4, 5] rfl) (hD.sub [0, 1, 7, 2, 6, 3, 4, 5] (by decide) rfl) hS
          exact L_22 n_22 0 0 o_firsts_f_21 H locs ls hn_22 hl hP hD hS
    exact L_19 n_19 1 z17 H locs ls hn_19 hl hP hD hS
  have L_2 : ∀ (n : Nat) (x1_3 : Int32) (o_marked_4 : Int32) (o_firsts_f_5 : Nat → Int32) (o_changes_f_6 : Nat → Int32) (H : Heap) (locs : List Loc) (ls : Array Slot), pu_it (p_Mod_run_L2 o_width o_height o_repeats o_wide o_floor o_across o_down o_sum o_many o_spots o_days o_former_n o_former_f o_later_n o_later_f o_lows_n o_lows_f o_highs_n o_highs_f o_firsts_n o_changes_n u1_0 u1_1) n (x1_3, o_marked_4, o_firsts_f_5, o_changes_f_6) = some e_2 → lv_has ls 3 [(1, .int x1_3), (0, .ref q_o)] → va_P (dC, dI) vwCl [(q_o_lows, .inl (cI, o_lows_n, .inl o_lows_f)), (q_o_highs, .inl (cI, o_highs_n, .inl o_highs_f)), (q_o_firsts, .inl (cI, o_firsts_n, .inl o_firsts_f_5)), (q_o_changes, .inl (cI, o_changes_n, .inl o_changes_f_6)), (q_o, .inr (7, [.int 0, .int o_width, .int o_height, .ref q_o_former, .ref q_o_later, .ref q_o_charts, .ref q_o_lows, .ref q_o_highs, .int o_repeats, .int o_wide, .int o_floor, .int o_across, .int o_down, .long o_sum, .long o_many, .long u1_0, .long u1_1, .ref q_o_firsts, .ref q_o_changes, .int o_marked_4, .int o_spots, .int o_days, .ref q_o_dates, .ref q_o_kept])), (q_o_former, .inl (cI, o_former_n, .inl o_former_f)), (q_o_later, .inl (cI, o_later_n, .inl o_later_f)), (q_o_charts, .inl (cZ, o_charts_n, .inl o_charts_f))] H → va_D A [(q_o_lows, .inl (cI, o_lows_n, .inl o_lows_f)), (q_o_highs, .inl (cI, o_highs_n, .inl o_highs_f)), (q_o_firsts, .inl (cI, o_firsts_n, .inl o_firsts_f_5)), (q_o_changes, .inl (cI, o_changes_n, .inl o_changes_f_6)), (q_o, .inr (7, [.int 0, .int o_width, .int o_height, .ref q_o_former, .ref q_o_later, .ref q_o_charts, .ref q_o_lows, .ref q_o_highs, .int o_repeats, .int o_wide, .int o_floor, .int o_across, .int o_down, .long o_sum, .long o_many, .long u1_0, .long u1_1, .ref q_o_firsts, .ref q_o_changes, .int o_marked_4, .int o_spots, .int o_days, .ref q_o_dates, .ref q_o_kept])), (q_o_former, .inl (cI, o_former_n, .inl o_former_f)), (q_o_later, .inl (cI, o_later_n, .inl o_later_f)), (q_o_charts, .inl (cZ, o_charts_n, .inl o_charts_f))] → va_S A s.heap H locs → W p l e rm_Mod_run s m args below meth c H locs 0 0 Q (F0 m 16 ls []) := by
    intro n
    induction n with
    | zero => intro x1_3 o_marked_4 o_firsts_f_5 o_changes_f_6 H locs ls hn; exact (pu_it_0 hn).elim
    | succ n ih =>
      intro x1_3 o_marked_4 o_firsts_f_5 o_changes_f_6 H locs ls hn hl hP hD hS
      obtain ⟨r_2, h, hr_2⟩ := pu_it_succ hn
      unfold p_Mod_run_L2 at h
      try dsimp only at h
      refine lv_iload_n hx hb d_Mod_run_16 rfl (lv_at hl 0 rfl) ?_
      refine lv_sipush (v := 576) hx hb d_Mod_run_17 (by decide) ?_
      refine lv_icmp_ge (tgt := 112) hx hb d_Mod_run_20 (by decide) (fun hc => ?_) (fun hc => ?_)
      · have h := pu_t hc h
        cases h
        exact K_2 x1_3 o_marked_4 o_firsts_f_5 o_changes_f_6 H locs ls hr_2.symm (lv_sub hl [0, 1] rfl) (hP.sub [0, 1, 2, 3, 4, 5, 6, 7] rfl) (hD.sub [0, 1, 2, 3, 4, 5, 6, 7] (by decide) rfl) hS
      · have h := pu_f hc h
        refine lv_aload_n hx hb d_Mod_run_23 rfl (lv_at hl 1 rfl) ?_
        refine va_get (D := (dC, dI)) (ci := 7) (v := .ref q_o_changes) (C := R_Mod) (T := F_Mod) (N := 24) hx hb hts i_Mod hown hK hP 4 rfl rfl 18 (by decide) (hts _ k_626) (fun _ h9 => h9) rfl d_Mod_run_24 ?_
        refine lv_iload_n hx hb d_Mod_run_27 rfl (lv_at hl 0 rfl) ?_
        refine lv_aload_n hx hb d_Mod_run_28 rfl (lv_at hl 1 rfl) ?_
        refine lv_iload_n hx hb d_Mod_run_29 rfl (lv_at hl 0 rfl) ?_
        obtain ⟨v7, hu7, h⟩ := pu_bd h
        refine cc_V (As := [.int x1_3]) (rest := [.int x1_3, .ref q_o_changes]) ⟨hx, hb, hml, hown, hts⟩ (c_Mod_isPlace l dC dI cI cJ cZ q_o q_o_former q_o_later q_o_charts q_o_lows q_o_highs q_o_firsts q_o_changes q_o_dates q_o_kept x1_3 0 o_width o_height o_repeats o_wide o_floor o_across o_down o_sum o_many u1_0 u1_1 o_marked_4 o_spots o_days v7 hu7) (cwV 1 hts (gV k_714 k_716 kp_19 k_9 k_717 rfl) rfl rfl rfl hdV_Mod_isPlace ⟨Nat.le_of_ble_eq_true rfl, Nat.le_of_ble_eq_true rfl⟩) hK hN hP hD hS hA [4] [0, 1, 2, 3, 5, 6, 7] (w0 := [(q_o, .inr (7, [.int 0, .int o_width, .int o_height, .ref q_o_former, .ref q_o_later, .ref q_o_charts, .ref q_o_lows, .ref q_o_highs, .int o_repeats, .int o_wide, .int o_floor, .int o_across, .int o_down, .long o_sum, .long o_many, .long u1_0, .long u1_1, .ref q_o_firsts, .ref q_o_changes, .int o_marked_4, .int o_spots, .int o_days, .ref q_o_dates, .ref q_o_kept]))]) (wr := [(q_o_lows, .inl (cI, o_lows_n, .inl o_lows_f)), (q_o_highs, .inl (cI, o_highs_n, .inl o_highs_f)), (q_o_firsts, .inl (cI, o_firsts_n, .inl o_firsts_f_5)), (q_o_changes, .inl (cI, o_changes_n, .inl o_changes_f_6)), (q_o_former, .inl (cI, o_former_n, .inl o_former_f)), (q_o_later, .inl (cI, o_later_n, .inl o_later_f)), (q_o_charts, .inl (cZ, o_charts_n, .inl o_charts_f))]) rfl rfl (by decide) (by decide) (by decide) 7 rfl rfl rfl hl.1 rfl (Nat.le_of_ble_eq_true rfl) d_Mod_run_30 ⟨Nat.le_of_ble_eq_true rfl, Nat.le_of_ble_eq_true rfl⟩ (fun w1 H locs hw1 hP hD hS => ?_)
        subst hw1
        have hP : va_P (dC, dI) vwCl [(q_o_lows, .inl (cI, o_lows_n, .inl o_lows_f)), (q_o_highs, .inl (cI, o_highs_n, .inl o_highs_f)), (q_o_firsts, .inl (cI, o_firsts_n, .inl o_firsts_f_5)), (q_o_changes, .inl (cI, o_changes_n, .inl o_changes_f_6)), (q_o_former, .inl (cI, o_former_n, .inl o_former_f)), (q_o_later, .inl (cI, o_later_n, .inl o_later_f)), (q_o_charts, .inl (cZ, o_charts_n, .inl o_charts_f)), (q_o, .inr (7, [.int 0, .int o_width, .int o_height, .ref q_o_former, .ref q_o_later, .ref q_o_charts, .ref q_o_lows, .ref q_o_highs, .int o_repeats, .int o_wide, .int o_floor, .int o_across, .int o_down, .long o_sum, .long o_many, .long u1_0, .long u1_1, .ref q_o_firsts, .ref q_o_changes, .int o_marked_4, .int o_spots, .int o_days, .ref q_o_dates, .ref q_o_kept]))] H := hP
        have hD : va_D A [(q_o_lows, .inl (cI, o_lows_n, .inl o_lows_f)), (q_o_highs, .inl (cI, o_highs_n, .inl o_highs_f)), (q_o_firsts, .inl (cI, o_firsts_n, .inl o_firsts_f_5)), (q_o_changes, .inl (cI, o_changes_n, .inl o_changes_f_6)), (q_o_former, .inl (cI, o_former_n, .inl o_former_f)), (q_o_later, .inl (cI, o_later_n, .inl o_later_f)), (q_o_charts, .inl (cZ, o_charts_n, .inl o_charts_f)), (q_o, .inr (7, [.int 0, .int o_width, .int o_height, .ref q_o_former, .ref q_o_later, .ref q_o_charts, .ref q_o_lows, .ref q_o_highs, .int o_repeats, .int o_wide, .int o_floor, .int o_across, .int o_down, .long o_sum, .long o_many, .long u1_0, .long u1_1, .ref q_o_firsts, .ref q_o_changes, .int o_marked_4, .int o_spots, .int o_days, .ref q_o_dates, .ref q_o_kept]))] := hD
        obtain ⟨j_8, hj_8, hx_8⟩ := pu_bd h
        have J_8 : ∀ (j8_10 : Int32) (H : Heap) (locs : List Loc) (ls : Array Slot), j_8 = j8_10 → lv_has ls 3 [(1, .int x1_3), (0, .ref q_o)] → va_P (dC, dI) vwCl [(q_o_lows, .inl (cI, o_lows_n, .inl o_lows_f)), (q_o_highs, .inl (cI, o_highs_n, .inl o_highs_f)), (q_o_firsts, .inl (cI, o_firsts_n, .inl o_firsts_f_5)), (q_o_changes, .inl (cI, o_changes_n, .inl o_changes_f_6)), (q_o_former, .inl (cI, o_former_n, .inl o_former_f)), (q_o_later, .inl (cI, o_later_n, .inl o_later_f)), (q_o_charts, .inl (cZ, o_charts_n, .inl o_charts_f)), (q_o, .inr (7, [.int 0, .int o_width, .int o_height, .ref q_o_former, .ref q_o_later, .ref q_o_charts, .ref q_o_lows, .ref q_o_highs, .int o_repeats, .int o_wide, .int o_floor, .int o_across, .int o_down, .long o_sum, .long o_many, .long u1_0, .long u1_1, .ref q_o_firsts, .ref q_o_changes, .int o_marked_4, .int o_spots, .int o_days, .ref q_o_dates, .ref q_o_kept]))] H → va_D A [(q_o_lows, .inl (cI, o_lows_n, .inl o_lows_f)), (q_o_highs, .inl (cI, o_highs_n, .inl o_highs_f)), (q_o_firsts, .inl (cI, o_firsts_n, .inl o_firsts_f_5)), (q_o_changes, .inl (cI, o_changes_n, .inl o_changes_f_6)), (q_o_former, .inl (cI, o_former_n, .inl o_former_f)), (q_o_later, .inl (cI, o_later_n, .inl o_later_f)), (q_o_charts, .inl (cZ, o_charts_n, .inl o_charts_f)), (q_o, .inr (7, [.int 0, .int o_width, .int o_height, .ref q_o_former, .ref q_o_later, .ref q_o_charts, .ref q_o_lows, .ref q_o_highs, .int o_repeats, .int o_wide, .int o_floor, .int o_across, .int o_down, .long o_sum, .long o_many, .long u1_0, .long u1_1, .ref q_o_firsts, .ref q_o_changes, .int o_marked_4, .int o_spots, .int o_days, .ref q_o_dates, .ref q_o_kept]))] → va_S A s.heap H locs → W p l e rm_Mod_run s m args below meth c H locs 0 0 Q (F0 m 45 ls [.int j8_10, .int x1_3, .ref q_o_changes]) := by
          intro j8_10 H locs ls he hl hP hD hS
          have h := hx_8
          rw [he] at h
          try dsimp only at h
          obtain ⟨hg, h⟩ := pu_g h
          refine va_iast hx hb hK hP hD hS 3 0 rfl rfl hg d_Mod_run_45 (fun H locs hP hD hS => ?_)
          have hP : va_P (dC, dI) vwCl [(q_o_lows, .inl (cI, o_lows_n, .inl o_lows_f)), (q_o_highs, .inl (cI, o_highs_n, .inl o_highs_f)), (q_o_firsts, .inl (cI, o_firsts_n, .inl o_firsts_f_5)), (q_o_changes, .inl (cI, o_changes_n, .inl (upd o_changes_f_6 x1_3.toNatClampNeg j8_10))), (q_o_former, .inl (cI, o_former_n, .inl o_former_f)), (q_o_later, .inl (cI, o_later_n, .inl o_later_f)), (q_o_charts, .inl (cZ, o_charts_n, .inl o_charts_f)), (q_o, .inr (7, [.int 0, .int o_width, .int o_height, .ref q_o_former, .ref q_o_later, .ref q_o_charts, .ref q_o_lows, .ref q_o_highs, .int o_repeats, .int o_wide, .int o_floor, .int o_across, .int o_down, .long o_sum, .long o_many, .long u1_0, .long u1_1, .ref q_o_firsts, .ref q_o_changes, .int o_marked_4, .int o_spots, .int o_days, .ref q_o_dates, .ref q_o_kept]))] H := hP
          have hD : va_D A [(q_o_lows, .inl (cI, o_lows_n, .inl o_lows_f)), (q_o_highs, .inl (cI, o_highs_n, .inl o_highs_f)), (q_o_firsts, .inl (cI, o_firsts_n, .inl o_firsts_f_5)), (q_o_changes, .inl (cI, o_changes_n, .inl (upd o_changes_f_6 x1_3.toNatClampNeg j8_10))), (q_o_former, .inl (cI, o_former_n, .inl o_former_f)), (q_o_later, .inl (cI, o_later_n, .inl o_later_f)), (q_o_charts, .inl (cZ, o_charts_n, .inl o_charts_f)), (q_o, .inr (7, [.int 0, .int o_width, .int o_height, .ref q_o_former, .ref q_o_later, .ref q_o_charts, .ref q_o_lows, .ref q_o_highs, .int o_repeats, .int o_wide, .int o_floor, .int o_across, .int o_down, .long o_sum, .long o_many, .long u1_0, .long u1_1, .ref q_o_firsts, .ref q_o_changes, .int o_marked_4, .int o_spots, .int o_days, .ref q_o_dates, .ref q_o_kept]))] := hD
          refine lv_aload_n hx hb d_Mod_run_46 rfl (lv_at hl 1 rfl) ?_
          refine va_get (D := (dC, dI)) (ci := 7) (v := .ref q_o_firsts) (C := R_Mod) (T := F_Mod) (N := 24) hx hb hts i_Mod hown hK hP 7 rfl rfl 17 (by decide) (hts _ k_625) (fun _ h9 => h9) rfl d_Mod_run_47 ?_
          refine lv_iload_n hx hb d_Mod_run_50 rfl (lv_at hl 0 rfl) ?_
          refine lv_aload_n hx hb d_Mod_run_51 rfl (lv_at hl 1 rfl) ?_
          refine lv_iload_n hx hb d_Mod_run_52 rfl (lv_at hl 0 rfl) ?_
          obtain ⟨v11, hu11, h⟩ := pu_bd h
          refine cc_V (As := [.int x1_3]) (rest := [.int x1_3, .ref q_o_firsts]) ⟨hx, hb, hml, hown, hts⟩ (c_Mod_isPlace l dC dI cI cJ cZ q_o q_o_former q_o_later q_o_charts q_o_lows q_o_highs q_o_firsts q_o_changes q_o_dates q_o_kept x1_3 0 o_width o_height o_repeats o_wide o_floor o_across o_down o_sum o_many u1_0 u1_1 o_marked_4 o_spots o_days v11 hu11) (cwV 1 hts (gV k_714 k_716 kp_19 k_9 k_717 rfl) rfl rfl rfl hdV_Mod_isPlace ⟨Nat.le_of_ble_eq_true rfl, Nat.le_of_ble_eq_true rfl⟩) hK hN hP hD hS hA [7] [0, 1, 2, 3, 4, 5, 6] (w0 := [(q_o, .inr (7, [.int 0, .int o_width, .int o_height, .ref q_o_former, .ref q_o_later, .ref q_o_charts, .ref q_o_lows, .ref q_o_highs, .int o_repeats, .int o_wide, .int o_floor, .int o_across, .int o_down, .long o_sum, .long o_many, .long u1_0, .long u1_1, .ref q_o_firsts, .ref q_o_changes, .int o_marked_4, .int o_spots, .int o_days, .ref q_o_dates, .ref q_o_kept]))]) (wr := [(q_o_lows, .inl (cI, o_lows_n, .inl o_lows_f)), (q_o_highs, .inl (cI, o_highs_n, .inl o_highs_f)), (q_o_firsts, .inl (cI, o_firsts_n, .inl o_firsts_f_5)), (q_o_changes, .inl (cI, o_changes_n, .inl (upd o_changes_f_6 x1_3.toNatClampNeg j8_10))), (q_o_former, .inl (cI, o_former_n, .inl o_former_f)), (q_o_later, .inl (cI, o_later_n, .inl o_later_f)), (q_o_charts, .inl (cZ, o_charts_n, .inl o_charts_f))]) rfl rfl (by decide) (by decide) (by decide) 7 rfl rfl rfl hl.1 rfl (Nat.le_of_ble_eq_true rfl) d_Mod_run_53 ⟨Nat.le_of_ble_eq_true rfl, Nat.le_of_ble_eq_true rfl⟩ (fun w1 H locs hw1 hP hD hS => ?_)
          subst hw1
          have hP : va_P (dC, dI) vwCl [(q_o_lows, .inl (cI, o_lows_n, .inl o_lows_f)), (q_o_highs, .inl (cI, o_highs_n, .inl o_highs_f)), (q_o_firsts, .inl (cI, o_firsts_n, .inl o_firsts_f_5)), (q_o_changes, .inl (cI, o_changes_n, .inl (upd o_changes_f_6 x1_3.toNatClampNeg j8_10))), (q_o_former, .inl (cI, o_former_n, .inl o_former_f)), (q_o_later, .inl (cI, o_later_n, .inl o_later_f)), (q_o_charts, .inl (cZ, o_charts_n, .inl o_charts_f)), (q_o, .inr (7, [.int 0, .int o_width, .int o_height, .ref q_o_former, .ref q_o_later, .ref q_o_charts, .ref q_o_lows, .ref q_o_highs, .int o_repeats, .int o_wide, .int o_floor, .int o_across, .int o_down, .long o_sum, .long o_many, .long u1_0, .long u1_1, .ref q_o_firsts, .ref q_o_changes, .int o_marked_4, .int o_spots, .int o_days, .ref q_o_dates, .ref q_o_kept]))] H := hP
          have hD : va_D A [(q_o_lows, .inl (cI, o_lows_n, .inl o_lows_f)), (q_o_highs, .inl (cI, o_highs_n, .inl o_highs_f)), (q_o_firsts, .inl (cI, o_firsts_n, .inl o_firsts_f_5)), (q_o_changes, .inl (cI, o_changes_n, .inl (upd o_changes_f_6 x1_3.toNatClampNeg j8_10))), (q_o_former, .inl (cI, o_former_n, .inl o_former_f)), (q_o_later, .inl (cI, o_later_n, .inl o_later_f)), (q_o_charts, .inl (cZ, o_charts_n, .inl o_charts_f)), (q_o, .inr (7, [.int 0, .int o_width, .int o_height, .ref q_o_former, .ref q_o_later, .ref q_o_charts, .ref q_o_lows, .ref q_o_highs, .int o_repeats, .int o_wide, .int o_floor, .int o_across, .int o_down, .long o_sum, .long o_many, .long u1_0, .long u1_1, .ref q_o_firsts, .ref q_o_changes, .int o_marked_4, .int o_spots, .int o_days, .ref q_o_dates, .ref q_o_kept]))] := hD
          obtain ⟨j_12, hj_12, hx_12⟩ := pu_bd h
          have J_12 : ∀ (j12_14 : Int32) (H : Heap) (locs : List Loc) (ls : Array Slot), j_12 = j12_14 → lv_has ls 3 [(1, .int x1_3), (0, .ref q_o)] → va_P (dC, dI) vwCl [(q_o_lows, .inl (cI, o_lows_n, .inl o_lows_f)), (q_o_highs, .inl (cI, o_highs_n, .inl o_highs_f)), (q_o_firsts, .inl (cI, o_firsts_n, .inl o_firsts_f_5)), (q_o_changes, .inl (cI, o_changes_n, .inl (upd o_changes_f_6 x1_3.toNatClampNeg j8_10))), (q_o_former, .inl (cI, o_former_n, .inl o_former_f)), (q_o_later, .inl (cI, o_later_n, .inl o_later_f)), (q_o_charts, .inl (cZ, o_charts_n, .inl o_charts_f)), (q_o, .inr (7, [.int 0, .int o_width, .int o_height, .ref q_o_former, .ref q_o_later, .ref q_o_charts, .ref q_o_lows, .ref q_o_highs, .int o_repeats, .int o_wide, .int o_floor, .int o_across, .int o_down, .long o_sum, .long o_many, .long u1_0, .long u1_1, .ref q_o_firsts, .ref q_o_changes, .int o_marked_4, .int o_spots, .int o_days, .ref q_o_dates, .ref q_o_kept]))] H → va_D A [(q_o_lows, .inl (cI, o_lows_n, .inl o_lows_f)), (q_o_highs, .inl (cI, o_highs_n, .inl o_highs_f)), (q_o_firsts, .inl (cI, o_firsts_n, .inl o_firsts_f_5)), (q_o_changes, .inl (cI, o_changes_n, .inl (upd o_changes_f_6 x1_3.toNatClampNeg j8_10))), (q_o_former, .inl (cI, o_former_n, .inl o_former_f)), (q_o_later, .inl (cI, o_later_n, .inl o_later_f)), (q_o_charts, .inl (cZ, o_charts_n, .inl o_charts_f)), (q_o, .inr (7, [.int 0, .int o_width, .int o_height, .ref q_o_former, .ref q_o_later, .ref q_o_charts, .ref q_o_lows, .ref q_o_highs, .int o_repeats, .int o_wide, .int o_floor, .int o_across, .int o_down, .long o_sum, .long o_many, .long u1_0, .long u1_1, .ref q_o_firsts, .ref q_o_changes, .int o_marked_4, .int o_spots, .int o_days, .ref q_o_dates, .ref q_o_kept]))] → va_S A s.heap H locs → W p l e rm_Mod_run s m args below meth c H locs 0 0 Q (F0 m 78 ls [.int j12_14, .int x1_3, .ref q_o_firsts]) := by
            intro j12_14 H locs ls he hl hP hD hS
            have h := hx_12
            rw [he] at h
            try dsimp only at h
            obtain ⟨hg, h⟩ := pu_g h
            refine va_iast hx hb hK hP hD hS 2 0 rfl rfl hg d_Mod_run_78 (fun H locs hP hD hS => ?_)
            have hP : va_P (dC, dI) vwCl [(q_o_lows, .inl (cI, o_lows_n, .inl o_lows_f)), (q_o_highs, .inl (cI, o_highs_n, .inl o_highs_f)), (q_o_firsts, .inl (cI, o_firsts_n, .inl (upd o_firsts_f_5 x1_3.toNatClampNeg j12_14))), (q_o_changes, .inl (cI, o_changes_n, .inl (upd o_changes_f_6 x1_3.toNatClampNeg j8_10))), (q_o_former, .inl (cI, o_former_n, .inl o_former_f)), (q_o_later, .inl (cI, o_later_n, .inl o_later_f)), (q_o_charts, .inl (cZ, o_charts_n, .inl o_charts_f)), (q_o, .inr (7, [.int 0, .int o_width, .int o_height, .ref q_o_former, .ref q_o_later, .ref q_o_charts, .ref q_o_lows, .ref q_o_highs, .int o_repeats, .int o_wide, .int o_floor, .int o_across, .int o_down, .long o_sum, .long o_many, .long u1_0, .long u1_1, .ref q_o_firsts, .ref q_o_changes, .int o_marked_4, .int o_spots, .int o_days, .ref q_o_dates, .ref q_o_kept]))] H := hP
            have hD : va_D A [(q_o_lows, .inl (cI, o_lows_n, .inl o_lows_f)), (q_o_highs, .inl (cI, o_highs_n, .inl o_highs_f)), (q_o_firsts, .inl (cI, o_firsts_n, .inl (upd o_firsts_f_5 x1_3.toNatClampNeg j12_14))), (q_o_changes, .inl (cI, o_changes_n, .inl (upd o_changes_f_6 x1_3.toNatClampNeg j8_10))), (q_o_former, .inl (cI, o_former_n, .inl o_former_f)), (q_o_later, .inl (cI, o_later_n, .inl o_later_f)), (q_o_charts, .inl (cZ, o_charts_n, .inl o_charts_f)), (q_o, .inr (7, [.int 0, .int o_width, .int o_height, .ref q_o_former, .ref q_o_later, .ref q_o_charts, .ref q_o_lows, .ref q_o_highs, .int o_repeats, .int o_wide, .int o_floor, .int o_across, .int o_down, .long o_sum, .long o_many, .long u1_0, .long u1_1, .ref q_o_firsts, .ref q_o_changes, .int o_marked_4, .int o_spots, .int o_days, .ref q_o_dates, .ref q_o_kept]))] := hD
            refine lv_aload_n hx hb d_Mod_run_79 rfl (lv_at hl 1 rfl) ?_
            refine lv_aload_n hx hb d_Mod_run_80 rfl (lv_at hl 1 rfl) ?_
            refine va_get (D := (dC, dI)) (ci := 7) (v := .ref q_o_firsts) (C := R_Mod) (T := F_Mod) (N := 24) hx hb hts i_Mod hown hK hP 7 rfl rfl 17 (by decide) (hts _ k_625) (fun _ h9 => h9) rfl d_Mod_run_81 ?_
            refine lv_iload_n hx hb d_Mod_run_84 rfl (lv_at hl 0 rfl) ?_
            obtain ⟨hg, h⟩ := pu_g h
            refine va_iald hx hb hK hP 2 0 rfl rfl hg d_Mod_run_85 ?_
            refine lv_iconst (v := (-1)) hx hb d_Mod_run_86 (by decide) ?_
            refine lv_icmp_eq (tgt := 99) hx hb d_Mod_run_87 (by decide) (fun hc => ?_) (fun hc => ?_)
            · have h := pu_t hc h
              refine lv_aload_n hx hb d_Mod_run_99 rfl (lv_at hl 1 rfl) ?_
              refine va_get (D := (dC, dI)) (ci := 7) (v := .int o_marked_4) (C := R_Mod) (T := F_Mod) (N := 24) hx hb hts i_Mod hown hK hP 7 rfl rfl 19 (by decide) (hts _ k_627) (fun _ h9 => h9) rfl d_Mod_run_100 ?_
              refine va_put (D := (dC, dI)) (ci := 7) (v := .int o_marked_4) (ty := .int) (C := R_Mod) (T := F_Mod) (N := 24) hx hb hts i_Mod t_Mod t_Mod_ok n_Mod hown hK hP hD hS 7 rfl rfl 19 (by decide) (hts _ k_627) (fun _ h9 => h9) rfl (by decide +kernel) rfl rfl (Nat.le_of_ble_eq_true rfl) d_Mod_run_103 (fun H locs hP hD hS => ?_)
              have hP : va_P (dC, dI) vwCl [(q_o_lows, .inl (cI, o_lows_n, .inl o_lows_f)), (q_o_highs, .inl (cI, o_highs_n, .inl o_highs_f)), (q_o_firsts, .inl (cI, o_firsts_n, .inl (upd o_firsts_f_5 x1_3.toNatClampNeg j12_14))), (q_o_changes, .inl (cI, o_changes_n, .inl (upd o_changes_f_6 x1_3.toNatClampNeg j8_10))), (q_o_former, .inl (cI, o_former_n, .inl o_former_f)), (q_o_later, .inl (cI, o_later_n, .inl o_later_f)), (q_o_charts, .inl (cZ, o_charts_n, .inl o_charts_f)), (q_o, .inr (7, [.int 0, .int o_width, .int o_height, .ref q_o_former, .ref q_o_later, .ref q_o_charts, .ref q_o_lows, .ref q_o_highs, .int o_repeats, .int o_wide, .int o_floor, .int o_across, .int o_down, .long o_sum, .long o_many, .long u1_0, .long u1_1, .ref q_o_firsts, .ref q_o_changes, .int o_marked_4, .int o_spots, .int o_days, .ref q_o_dates, .ref q_o_kept]))] H := hP
              have hD : va_D A [(q_o_lows, .inl (cI, o_lows_n, .inl o_lows_f)), (q_o_highs, .inl (cI, o_highs_n, .inl o_highs_f)), (q_o_firsts, .inl (cI, o_firsts_n, .inl (upd o_firsts_f_5 x1_3.toNatClampNeg j12_14))), (q_o_changes, .inl (cI, o_changes_n, .inl (upd o_changes_f_6 x1_3.toNatClampNeg j8_10))), (q_o_former, .inl (cI, o_former_n, .inl o_former_f)), (q_o_later, .inl (cI, o_later_n, .inl o_later_f)), (q_o_charts, .inl (cZ, o_charts_n, .inl o_charts_f)), (q_o, .inr (7, [.int 0, .int o_width, .int o_height, .ref q_o_former, .ref q_o_later, .ref q_o_charts, .ref q_o_lows, .ref q_o_highs, .int o_repeats, .int o_wide, .int o_floor, .int o_across, .int o_down, .long o_sum, .long o_many, .long u1_0, .long u1_1, .ref q_o_firsts, .ref q_o_changes, .int o_marked_4, .int o_spots, .int o_days, .ref q_o_dates, .ref q_o_kept]))] := hD
              refine lv_iinc (v := (x1_3 + 1)) (lv' := [(1, .int (x1_3 + 1)), (0, .ref q_o)]) hx hb d_Mod_run_106 hl (k := 0) rfl rfl (by decide) rfl (fun ls hl => ?_)
              refine lv_goto (tgt := 16) hx hb d_Mod_run_109 (by decide) ?_
              cases h
              exact ih (x1_3 + 1) o_marked_4 (upd o_firsts_f_5 x1_3.toNatClampNeg j12_14) (upd o_changes_f_6 x1_3.toNatClampNeg j8_10) H locs ls hr_2 (lv_sub hl [0, 1] rfl) (hP.sub [0, 1, 2, 3, 7, 4, 5, 6] rfl) (hD.sub [0, 1, 2, 3, 7, 4, 5, 6] (by decide) rfl) hS
            · have h := pu_f hc h
              refine lv_aload_n hx hb d_Mod_run_90 rfl (lv_at hl 1 rfl) ?_
              refine va_get (D := (dC, dI)) (ci := 7) (v := .int o_marked_4) (C := R_Mod) (T := F_Mod) (N := 24) hx hb hts i_Mod hown hK hP 7 rfl rfl 19 (by decide) (hts _ k_627) (fun _ h9 => h9) rfl d_Mod_run_91 ?_
              refine lv_iconst (v := 1) hx hb d_Mod_run_94 (by decide) ?_
              refine lv_iadd hx hb d_Mod_run_95 ?_
              refine lv_goto (tgt := 103) hx hb d_Mod_run_96 (by decide) ?_
              refine va_put (D := (dC, dI)) (ci := 7) (v := .int (o_marked_4 + 1)) (ty := .int) (C := R_Mod) (T := F_Mod) (N := 24) hx hb hts i_Mod t_Mod t_Mod_ok n_Mod hown hK hP hD hS 7 rfl rfl 19 (by decide) (hts _ k_627) (fun _ h9 => h9) rfl (by decide +kernel) rfl rfl (Nat.le_of_ble_eq_true rfl) d_Mod_run_103 (fun H locs hP hD hS => ?_)
              have hP : va_P (dC, dI) vwCl [(q_o_lows, .inl (cI, o_lows_n, .inl o_lows_f)), (q_o_highs, .inl (cI, o_highs_n, .inl o_highs_f)), (q_o_firsts, .inl (cI, o_firsts_n, .inl (upd o_firsts_f_5 x1_3.toNatClampNeg j12_14))), (q_o_changes, .inl (cI, o_changes_n, .inl (upd o_changes_f_6 x1_3.toNatClampNeg j8_10))), (q_o_former, .inl (cI, o_former_n, .inl o_former_f)), (q_o_later, .inl (cI, o_later_n, .inl o_later_f)), (q_o_charts, .inl (cZ, o_charts_n, .inl o_charts_f)), (q_o, .inr (7, [.int 0, .int o_width, .int o_height, .ref q_o_former, .ref q_o_later, .ref q_o_charts, .ref q_o_lows, .ref q_o_highs, .int o_repeats, .int o_wide, .int o_floor, .int o_across, .int o_down, .long o_sum, .long o_many, .long u1_0, .long u1_1, .ref q_o_firsts, .ref q_o_changes, .int (o_marked_4 + 1), .int o_spots, .int o_days, .ref q_o_dates, .ref q_o_kept]))] H := hP
              have hD : va_D A [(q_o_lows, .inl (cI, o_lows_n, .inl o_lows_f)), (q_o_highs, .inl (cI, o_highs_n, .inl o_highs_f)), (q_o_firsts, .inl (cI, o_firsts_n, .inl (upd o_firsts_f_5 x1_3.toNatClampNeg j12_14))), (q_o_changes, .inl (cI, o_changes_n, .inl (upd o_changes_f_6 x1_3.toNatClampNeg j8_10))), (q_o_former, .inl (cI, o_former_n, .inl o_former_f)), (q_o_later, .inl (cI, o_later_n, .inl o_later_f)), (q_o_charts, .inl (cZ, o_charts_n, .inl o_charts_f)), (q_o, .inr (7, [.int 0, .int o_width, .int o_height, .ref q_o_former, .ref q_o_later, .ref q_o_charts, .ref q_o_lows, .ref q_o_highs, .int o_repeats, .int o_wide, .int o_floor, .int o_across, .int o_down, .long o_sum, .long o_many, .long u1_0, .long u1_1, .ref q_o_firsts, .ref q_o_changes, .int (o_marked_4 + 1), .int o_spots, .int o_days, .ref q_o_dates, .ref q_o_kept]))] := hD
              refine lv_iinc (v := (x1_3 + 1)) (lv' := [(1, .int (x1_3 + 1)), (0, .ref q_o)]) hx hb d_Mod_run_106 hl (k := 0) rfl rfl (by decide) rfl (fun ls hl => ?_)
              refine lv_goto (tgt := 16) hx hb d_Mod_run_109 (by decide) ?_
              cases h
              exact ih (x1_3 + 1) (o_marked_4 + 1) (upd o_firsts_f_5 x1_3.toNatClampNeg j12_14) (upd o_changes_f_6 x1_3.toNatClampNeg j8_10) H locs ls hr_2 (lv_sub hl [0, 1] rfl) (hP.sub [0, 1, 2, 3, 7, 4, 5, 6] rfl) (hD.sub [0, 1, 2, 3, 7, 4, 5, 6] (by decide) rfl) hS
          have h := hj_12
          refine lv_if_eq (tgt := 77) hx hb d_Mod_run_56 (by decide) (fun hc => ?_) (fun hc => ?_)
          · have h := pu_t hc h
            refine lv_iconst (v := (-1)) hx hb d_Mod_run_77 (by decide) ?_
            exact J_12 (-1) H locs ls (Option.some.inj h).symm (lv_sub hl [0, 1] rfl) (hP.sub [0, 1, 2, 3, 4, 5, 6, 7] rfl) (hD.sub [0, 1, 2, 3, 4, 5, 6, 7] (by decide) rfl) hS
          · have h := pu_f hc h
            refine lv_aload_n hx hb d_Mod_run_59 rfl (lv_at hl 1 rfl) ?_
            refine va_get (D := (dC, dI)) (ci := 7) (v := .ref q_o_changes) (C := R_Mod) (T := F_Mod) (N := 24) hx hb hts i_Mod hown hK hP 7 rfl rfl 18 (by decide) (hts _ k_626) (fun _ h9 => h9) rfl d_Mod_run_60 ?_
            refine lv_iload_n hx hb d_Mod_run_63 rfl (lv_at hl 0 rfl) ?_
            obtain ⟨hg, h⟩ := pu_g h
            refine va_iald hx hb hK hP 3 0 rfl rfl hg d_Mod_run_64 ?_
            refine lv_aload_n hx hb d_Mod_run_65 rfl (lv_at hl 1 rfl) ?_
            refine lv_iload_n hx hb d_Mod_run_66 rfl (lv_at hl 0 rfl) ?_
            obtain ⟨v13, hu13, h⟩ := pu_bd h
            refine cc_V (As := [.int x1_3]) (rest := [.int ((upd o_changes_f_6 x1_3.toNatClampNeg j8_10) x1_3.toNatClampNeg), .int x1_3, .ref q_o_firsts]) ⟨hx, hb, hml, hown, hts⟩ (c_Mod_boundOf l dC dI cI cJ cZ q_o q_o_former q_o_later q_o_charts q_o_lows q_o_highs q_o_firsts q_o_changes q_o_dates q_o_kept x1_3 0 o_width o_height o_repeats o_wide o_floor o_across o_down o_sum o_many u1_0 u1_1 o_marked_4 o_spots o_days o_former_n o_former_f o_lows_n o_lows_f o_highs_n o_highs_f v13 hu13) (cwV 1 hts (gV k_748 k_750 kp_22 k_9 k_751 rfl) rfl rfl rfl hdV_Mod_boundOf ⟨Nat.le_of_ble_eq_true rfl, Nat.le_of_ble_eq_true rfl⟩) hK hN hP hD hS hA [7, 4, 0, 1] [2, 3, 5, 6] (w0 := [(q_o, .inr (7, [.int 0, .int o_width, .int o_height, .ref q_o_former, .ref q_o_later, .ref q_o_charts, .ref q_o_lows, .ref q_o_highs, .int o_repeats, .int o_wide, .int o_floor, .int o_across, .int o_down, .long o_sum, .long o_many, .long u1_0, .long u1_1, .ref q_o_firsts, .ref q_o_changes, .int o_marked_4, .int o_spots, .int o_days, .ref q_o_dates, .ref q_o_kept])), (q_o_former, .inl (cI, o_former_n, .inl o_former_f)), (q_o_lows, .inl (cI, o_lows_n, .inl o_lows_f)), (q_o_highs, .inl (cI, o_highs_n, .inl o_highs_f))]) (wr := [(q_o_firsts, .inl (cI, o_firsts_n, .inl o_firsts_f_5)), (q_o_changes, .inl (cI, o_changes_n, .inl (upd o_changes_f_6 x1_3.toNatClampNeg j8_10))), (q_o_later, .inl (cI, o_later_n, .inl o_later_f)), (q_o_charts, .inl (cZ, o_charts_n, .inl o_charts_f))]) rfl rfl (by decide) (by decide) (by decide) 7 rfl rfl rfl hl.1 rfl (Nat.le_of_ble_eq_true rfl) d_Mod_run_67 ⟨Nat.le_of_ble_eq_true rfl, Nat.le_of_ble_eq_true rfl⟩ (fun w1 H locs hw1 hP hD hS => ?_)
            subst hw1
            have hP : va_P (dC, dI) vwCl [(q_o_firsts, .inl (cI, o_firsts_n, .inl o_firsts_f_5)), (q_o_changes, .inl (cI, o_changes_n, .inl (upd o_changes_f_6 x1_3.toNatClampNeg j8_10))), (q_o_later, .inl (cI, o_later_n, .inl o_later_f)), (q_o_charts, .inl (cZ, o_charts_n, .inl o_charts_f)), (q_o, .inr (7, [.int 0, .int o_width, .int o_height, .ref q_o_former, .ref q_o_later, .ref q_o_charts, .ref q_o_lows, .ref q_o_highs, .int o_repeats, .int o_wide, .int o_floor, .int o_across, .int o_down, .long o_sum, .long o_many, .long u1_0, .long u1_1, .ref q_o_firsts, .ref q_o_changes, .int o_marked_4, .int o_spots, .int o_days, .ref q_o_dates, .ref q_o_kept])), (q_o_former, .inl (cI, o_former_n, .inl o_former_f)), (q_o_lows, .inl (cI, o_lows_n, .inl o_lows_f)), (q_o_highs, .inl (cI, o_highs_n, .inl o_highs_f))] H := hP
            have hD : va_D A [(q_o_firsts, .inl (cI, o_firsts_n, .inl o_firsts_f_5)), (q_o_changes, .inl (cI, o_changes_n, .inl (upd o_changes_f_6 x1_3.toNatClampNeg j8_10))), (q_o_later, .inl (cI, o_later_n, .inl o_later_f)), (q_o_charts, .inl (cZ, o_charts_n, .inl o_charts_f)), (q_o, .inr (7, [.int 0, .int o_width, .int o_height, .ref q_o_former, .ref q_o_later, .ref q_o_charts, .ref q_o_lows, .ref q_o_highs, .int o_repeats, .int o_wide, .int o_floor, .int o_across, .int o_down, .long o_sum, .long o_many, .long u1_0, .long u1_1, .ref q_o_firsts, .ref q_o_changes, .int o_marked_4, .int o_spots, .int o_days, .ref q_o_dates, .ref q_o_kept])), (q_o_former, .inl (cI, o_former_n, .inl o_former_f)), (q_o_lows, .inl (cI, o_lows_n, .inl o_lows_f)), (q_o_highs, .inl (cI, o_highs_n, .inl o_highs_f))] := hD
            refine lv_icmp_le (tgt := 77) hx hb d_Mod_run_70 (by decide) (fun hc => ?_) (fun hc => ?_)
            · have h := pu_t hc h
              refine lv_iconst (v := (-1)) hx hb d_Mod_run_77 (by decide) ?_
              exact J_12 (-1) H locs ls (Option.some.inj h).symm (lv_sub hl [0, 1] rfl) (hP.sub [6, 7, 0, 1, 5, 2, 3, 4] rfl) (hD.sub [6, 7, 0, 1, 5, 2, 3, 4] (by decide) rfl) hS
            · have h := pu_f hc h
              refine lv_iload_n hx hb d_Mod_run_73 rfl (lv_at hl 0 rfl) ?_
              refine lv_goto (tgt := 78) hx hb d_Mod_run_74 (by decide) ?_
              exact J_12 x1_3 H locs ls (Option.some.inj h).symm (lv_sub hl [0, 1] rfl) (hP.sub [6, 7, 0, 1, 5, 2, 3, 4] rfl) (hD.sub [6, 7, 0, 1, 5, 2, 3, 4] (by decide) rfl) hS
        have h := hj_8
        refine lv_if_eq (tgt := 44) hx hb d_Mod_run_33 (by decide) (fun hc => ?_) (fun hc => ?_)
        · have h := pu_t hc h
          refine lv_iconst (v := 0) hx hb d_Mod_run_44 (by decide) ?_
          exact J_8 0 H locs ls (Option.some.inj h).symm (lv_sub hl [0, 1] rfl) (hP.sub [0, 1, 2, 3, 4, 5, 6, 7] rfl) (hD.sub [0, 1, 2, 3, 4, 5, 6, 7] (by decide) rfl) hS
        · have h := pu_f hc h
          refine lv_aload_n hx hb d_Mod_run_36 rfl (lv_at hl 1 rfl) ?_
          refine lv_iload_n hx hb d_Mod_run_37 rfl (lv_at hl 0 rfl) ?_
          obtain ⟨v9, hu9, h⟩ := pu_bd h
          refine cc_V (As := [.int x1_3]) (rest := [.int x1_3, .ref q_o_changes]) ⟨hx, hb, hml, hown, hts⟩ (c_Mod_changeOf l dC dI cI cJ cZ q_o q_o_former q_o_later q_o_charts q_o_lows q_o_highs q_o_firsts q_o_changes q_o_dates q_o_kept x1_3 0 o_width o_height o_repeats o_wide o_floor o_across o_down o_sum o_many u1_0 u1_1 o_marked_4 o_spots o_days o_former_n o_former_f o_later_n o_later_f v9 hu9) (cwV 1 hts (gV k_764 k_766 kp_23 k_9 k_767 rfl) rfl rfl rfl hdV_Mod_changeOf ⟨Nat.le_of_ble_eq_true rfl, Nat.le_of_ble_eq_true rfl⟩) hK hN hP hD hS hA [7, 4, 5] [0, 1, 2, 3, 6] (w0 := [(q_o, .inr (7, [.int 0, .int o_width, .int o_height, .ref q_o_former, .ref q_o_later, .ref q_o_charts, .ref q_o_lows, .ref q_o_highs, .int o_repeats, .int o_wide, .int o_floor, .int o_across, .int o_down, .long o_sum, .long o_many, .long u1_0, .long u1_1, .ref q_o_firsts, .ref q_o_changes, .int o_marked_4, .int o_spots, .int o_days, .ref q_o_dates, .ref q_o_kept])), (q_o_former, .inl (cI, o_former_n, .inl o_former_f)), (q_o_later, .inl (cI, o_later_n, .inl o_later_f))]) (wr := [(q_o_lows, .inl (cI, o_lows_n, .inl o_lows_f)), (q_o_highs, .inl (cI, o_highs_n, .inl o_highs_f)), (q_o_firsts, .inl (cI, o_firsts_n, .inl o_firsts_f_5)), (q_o_changes, .inl (cI, o_changes_n, .inl o_changes_f_6)), (q_o_charts, .inl (cZ, o_charts_n, .inl o_charts_f))]) rfl rfl (by decide) (by decide) (by decide) 7 rfl rfl rfl hl.1 rfl (Nat.le_of_ble_eq_true rfl) d_Mod_run_38 ⟨Nat.le_of_ble_eq_true rfl, Nat.le_of_ble_eq_true rfl⟩ (fun w1 H locs hw1 hP hD hS => ?_)
          subst hw1
          have hP : va_P (dC, dI) vwCl [(q_o_lows, .inl (cI, o_lows_n, .inl o_lows_f)), (q_o_highs, .inl (cI, o_highs_n, .inl o_highs_f)), (q_o_firsts, .inl (cI, o_firsts_n, .inl o_firsts_f_5)), (q_o_changes, .inl (cI, o_changes_n, .inl o_changes_f_6)), (q_o_charts, .inl (cZ, o_charts_n, .inl o_charts_f)), (q_o, .inr (7, [.int 0, .int o_width, .int o_height, .ref q_o_former, .ref q_o_later, .ref q_o_charts, .ref q_o_lows, .ref q_o_highs, .int o_repeats, .int o_wide, .int o_floor, .int o_across, .int o_down, .long o_sum, .long o_many, .long u1_0, .long u1_1, .ref q_o_firsts, .ref q_o_changes, .int o_marked_4, .int o_spots, .int o_days, .ref q_o_dates, .ref q_o_kept])), (q_o_former, .inl (cI, o_former_n, .inl o_former_f)), (q_o_later, .inl (cI, o_later_n, .inl o_later_f))] H := hP
          have hD : va_D A [(q_o_lows, .inl (cI, o_lows_n, .inl o_lows_f)), (q_o_highs, .inl (cI, o_highs_n, .inl o_highs_f)), (q_o_firsts, .inl (cI, o_firsts_n, .inl o_firsts_f_5)), (q_o_changes, .inl (cI, o_changes_n, .inl o_changes_f_6)), (q_o_charts, .inl (cZ, o_charts_n, .inl o_charts_f)), (q_o, .inr (7, [.int 0, .int o_width, .int o_height, .ref q_o_former, .ref q_o_later, .ref q_o_charts, .ref q_o_lows, .ref q_o_highs, .int o_repeats, .int o_wide, .int o_floor, .int o_across, .int o_down, .long o_sum, .long o_many, .long u1_0, .long u1_1, .ref q_o_firsts, .ref q_o_changes, .int o_marked_4, .int o_spots, .int o_days, .ref q_o_dates, .ref q_o_kept])), (q_o_former, .inl (cI, o_former_n, .inl o_former_f)), (q_o_later, .inl (cI, o_later_n, .inl o_later_f))] := hD
          refine lv_goto (tgt := 45) hx hb d_Mod_run_41 (by decide) ?_
          exact J_8 v9 H locs ls (Option.some.inj h).symm (lv_sub hl [0, 1] rfl) (hP.sub [0, 1, 2, 3, 6, 7, 4, 5] rfl) (hD.sub [0, 1, 2, 3, 6, 7, 4, 5] (by decide) rfl) hS
  exact L_2 n_2 0 0 o_firsts_f o_changes_f H locs ls hn_2 hl hP hD hS

noncomputable def p_Mod_cellOf_L1 (a1 : Int32) (o_firsts_n : Nat) (o_firsts_f : Nat → Int32) : (Int32 × Int32) → Option ((Int32 × Int32) ⊕ (Int32 × Int32)) := fun ((x2_2, x3_3) : Int32 × Int32) =>
  (if a1 ≤ x2_2 then some (.inr (x2_2, x3_3)) else pu_gd (vp_in (x3_3 + 1) o_firsts_n) ((if (o_firsts_f (x3_3 + 1).toNatClampNeg) = (x3_3 + 1) then some (.inl ((x2_2 + 1), (x3_3 + 1))) else some (.inl (x2_2, (x3_3 + 1))))))
noncomputable def p_Mod_cellOf (a1 : Int32) (o_thrown : Int32) (o_width : Int32) (o_height : Int32) (o_repeats : Int32) (o_wide : Int32) (o_floor : Int32) (o_across : Int32) (o_down : Int32) (o_sum : Int64) (o_many : Int64) (o_above : Int64) (o_below : Int64) (o_marked : Int32) (o_spots : Int32) (o_days : Int32) (o_firsts_n : Nat) (o_firsts_f : Nat → Int32) : Option (Int32) :=
  (pu_loop (p_Mod_cellOf_L1 a1 o_firsts_n o_firsts_f) ((-1), (-1))).bind (fun ((y2_4, y3_5) : Int32 × Int32) => some y3_5)
set_option maxHeartbeats 4000000 in
set_option maxRecDepth 100000 in
theorem c_Mod_cellOf (l : Launch) (dC : Nat → ClassId) (dI : Nat → Nat → Nat) (cI cJ cZ : ClassId) (q_o q_o_former q_o_later q_o_charts q_o_lows q_o_highs q_o_firsts q_o_changes q_o_dates q_o_kept : Nat) (a1 : Int32) (o_thrown : Int32) (o_width : Int32) (o_height : Int32) (o_repeats : Int32) (o_wide : Int32) (o_floor : Int32) (o_across : Int32) (o_down : Int32) (o_sum : Int64) (o_many : Int64) (o_above : Int64) (o_below : Int64) (o_marked : Int32) (o_spots : Int32) (o_days : Int32) (o_firsts_n : Nat) (o_firsts_f : Nat → Int32) (r0 : Int32) (h : p_Mod_cellOf a1 o_thrown o_width o_height o_repeats o_wide o_floor o_across o_down o_sum o_many o_above o_below o_marked o_spots o_days o_firsts_n o_firsts_f = some r0) : ct l y_Mod_cellOf w_Mod_cellOf rm_Mod_cellOf (dC, dI) [(cI, .int), (cJ, .long), (cZ, .boolean)] [.ref q_o, .int a1] [(q_o, .inr (7, [.int o_thrown, .int o_width, .int o_height, .ref q_o_former, .ref q_o_later, .ref q_o_charts, .ref q_o_lows, .ref q_o_highs, .int o_repeats, .int o_wide, .int o_floor, .int o_across, .int o_down, .long o_sum, .long o_many, .long o_above, .long o_below, .ref q_o_firsts, .ref q_o_changes, .int o_marked, .int o_spots, .int o_days, .ref q_o_dates, .ref q_o_kept])), (q_o_firsts, .inl (cI, o_firsts_n, .inl o_firsts_f))] (fun w => w = [(q_o, .inr (7, [.int o_thrown, .int o_width, .int o_height, .ref q_o_former, .ref q_o_later, .ref q_o_charts, .ref q_o_lows, .ref q_o_highs, .int o_repeats, .int o_wide, .int o_floor, .int o_across, .int o_down, .long o_sum, .long o_many, .long o_above, .long o_below, .ref q_o_firsts, .ref q_o_changes, .int o_marked, .int o_spots, .int o_days, .ref q_o_dates, .ref q_o_kept])), (q_o_firsts, .inl (cI, o_firsts_n, .inl o_firsts_f))]) (some (.int r0)) := by
  refine ct_of (cc := b_Mod_cellOf) (maxL := 4) (ret := (some .int)) (lv := [(0, .ref q_o), (1, .int a1)]) (by decide) rfl rfl rfl ?_
  intro p e s m args below meth c A Q H locs hx hb hml hown hts hin hA hK hN hP hD hS RT ls hl
  unfold p_Mod_cellOf at h
  refine lv_iconst (v := (-1)) hx hb d_Mod_cellOf_0 (by decide) ?_
  refine lv_istore_n (lv' := [(2, .int (-1)), (0, .ref q_o), (1, .int a1)]) hx hb d_Mod_cellOf_1 rfl hl (by decide) rfl (fun ls hl => ?_)
  refine lv_iconst (v := (-1)) hx hb d_Mod_cellOf_2 (by decide) ?_
  refine lv_istore_n (lv' := [(3, .int (-1)), (2, .int (-1)), (0, .ref q_o), (1, .int a1)]) hx hb d_Mod_cellOf_3 rfl hl (by decide) rfl (fun ls hl => ?_)
  obtain ⟨e_1, he_1, hx_1⟩ := pu_bd h
  obtain ⟨n_1, hn_1⟩ := pu_loop_it he_1
  have K_1 : ∀ (y2_4 : Int32) (y3_5 : Int32) (H : Heap) (locs : List Loc) (ls : Array Slot), e_1 = (y2_4, y3_5) → lv_has ls 4 [(3, .int y3_5), (2, .int y2_4), (0, .ref q_o), (1, .int a1)] → va_P (dC, dI) vwCl [(q_o, .inr (7, [.int o_thrown, .int o_width, .int o_height, .ref q_o_former, .ref q_o_later, .ref q_o_charts, .ref q_o_lows, .ref q_o_highs, .int o_repeats, .int o_wide, .int o_floor, .int o_across, .int o_down, .long o_sum, .long o_many, .long o_above, .long o_below, .ref q_o_firsts, .ref q_o_changes, .int o_marked, .int o_spots, .int o_days, .ref q_o_dates, .ref q_o_kept])), (q_o_firsts, .inl (cI, o_firsts_n, .inl o_firsts_f))] H → va_D A [(q_o, .inr (7, [.int o_thrown, .int o_width, .int o_height, .ref q_o_former, .ref q_o_later, .ref q_o_charts, .ref q_o_lows, .ref q_o_highs, .int o_repeats, .int o_wide, .int o_floor, .int o_across, .int o_down, .long o_sum, .long o_many, .long o_above, .long o_below, .ref q_o_firsts, .ref q_o_changes, .int o_marked, .int o_spots, .int o_days, .ref q_o_dates, .ref q_o_kept])), (q_o_firsts, .inl (cI, o_firsts_n, .inl o_firsts_f))] → va_S A s.heap H locs → W p l e rm_Mod_cellOf s m args below meth c H locs 0 0 Q (F0 m 33 ls []) := by
    intro y2_4 y3_5 H locs ls he hl hP hD hS
    have h := hx_1
    rw [he] at h
    try dsimp only at h
    refine lv_iload_n hx hb d_Mod_cellOf_33 rfl (lv_at hl 0 rfl) ?_
    cases h
    refine W.widen (k := 0) (n := 0) (Nat.le_of_ble_eq_true rfl) (Nat.le_of_ble_eq_true rfl) ?_
    exact RT 34 ls H locs _ d_Mod_cellOf_34 (Or.inr (Or.inl ⟨rfl, _, rfl⟩)) rfl (hP.sub [0, 1] rfl) (hD.sub [0, 1] (by decide) rfl) hS
  have L_1 : ∀ (n : Nat) (x2_2 : Int32) (x3_3 : Int32) (H : Heap) (locs : List Loc) (ls : Array Slot), pu_it (p_Mod_cellOf_L1 a1 o_firsts_n o_firsts_f) n (x2_2, x3_3) = some e_1 → lv_has ls 4 [(3, .int x3_3), (2, .int x2_2), (0, .ref q_o), (1, .int a1)] → va_P (dC, dI) vwCl [(q_o, .inr (7, [.int o_thrown, .int o_width, .int o_height, .ref q_o_former, .ref q_o_later, .ref q_o_charts, .ref q_o_lows, .ref q_o_highs, .int o_repeats, .int o_wide, .int o_floor, .int o_across, .int o_down, .long o_sum, .long o_many, .long o_above, .long o_below, .ref q_o_firsts, .ref q_o_changes, .int o_marked, .int o_spots, .int o_days, .ref q_o_dates, .ref q_o_kept])), (q_o_firsts, .inl (cI, o_firsts_n, .inl o_firsts_f))] H → va_D A [(q_o, .inr (7, [.int o_thrown, .int o_width, .int o_height, .ref q_o_former, .ref q_o_later, .ref q_o_charts, .ref q_o_lows, .ref q_o_highs, .int o_repeats, .int o_wide, .int o_floor, .int o_across, .int o_down, .long o_sum, .long o_many, .long o_above, .long o_below, .ref q_o_firsts, .ref q_o_changes, .int o_marked, .int o_spots, .int o_days, .ref q_o_dates, .ref q_o_kept])), (q_o_firsts, .inl (cI, o_firsts_n, .inl o_firsts_f))] → va_S A s.heap H locs → W p l e rm_Mod_cellOf s m args below meth c H locs 0 0 Q (F0 m 4 ls []) := by
    intro n
    induction n with
    | zero => intro x2_2 x3_3 H locs ls hn; exact (pu_it_0 hn).elim
    | succ n ih =>
      intro x2_2 x3_3 H locs ls hn hl hP hD hS
      obtain ⟨r_1, h, hr_1⟩ := pu_it_succ hn
      unfold p_Mod_cellOf_L1 at h
      try dsimp only at h
      refine lv_iload_n hx hb d_Mod_cellOf_4 rfl (lv_at hl 1 rfl) ?_
      refine lv_iload_n hx hb d_Mod_cellOf_5 rfl (lv_at hl 3 rfl) ?_
      refine lv_icmp_ge (tgt := 33) hx hb d_Mod_cellOf_6 (by decide) (fun hc => ?_) (fun hc => ?_)
      · have h := pu_t hc h
        cases h
        exact K_1 x2_2 x3_3 H locs ls hr_1.symm (lv_sub hl [0, 1, 2, 3] rfl) (hP.sub [0, 1] rfl) (hD.sub [0, 1] (by decide) rfl) hS
      · have h := pu_f hc h
        refine lv_iinc (v := (x3_3 + 1)) (lv' := [(3, .int (x3_3 + 1)), (2, .int x2_2), (0, .ref q_o), (1, .int a1)]) hx hb d_Mod_cellOf_9 hl (k := 0) rfl rfl (by decide) rfl (fun ls hl => ?_)
        refine lv_aload_n hx hb d_Mod_cellOf_12 rfl (lv_at hl 2 rfl) ?_
        refine va_get (D := (dC, dI)) (ci := 7) (v := .ref q_o_firsts) (C := R_Mod) (T := F_Mod) (N := 24) hx hb hts i_Mod hown hK hP 0 rfl rfl 17 (by decide) (hts _ k_625) (fun _ h9 => h9) rfl d_Mod_cellOf_13 ?_
        refine lv_iload_n hx hb d_Mod_cellOf_16 rfl (lv_at hl 0 rfl) ?_
        obtain ⟨hg, h⟩ := pu_g h
        refine va_iald hx hb hK hP 1 0 rfl rfl hg d_Mod_cellOf_17 ?_
        refine lv_iload_n hx hb d_Mod_cellOf_18 rfl (lv_at hl 0 rfl) ?_
        refine lv_icmp_ne (tgt := 28) hx hb d_Mod_cellOf_19 (by decide) (fun hc => ?_) (fun hc => ?_)
        · have h := pu_f hc h
          refine lv_iload_n hx hb d_Mod_cellOf_28 rfl (lv_at hl 1 rfl) ?_
          refine lv_istore_n (lv' := [(2, .int x2_2), (3, .int (x3_3 + 1)), (0, .ref q_o), (1, .int a1)]) hx hb d_Mod_cellOf_29 rfl hl (by decide) rfl (fun ls hl => ?_)
          refine lv_goto (tgt := 4) hx hb d_Mod_cellOf_30 (by decide) ?_
          cases h
          exact ih x2_2 (x3_3 + 1) H locs ls hr_1 (lv_sub hl [1, 0, 2, 3] rfl) (hP.sub [0, 1] rfl) (hD.sub [0, 1] (by decide) rfl) hS
        · have h := pu_t hc h
          refine lv_iload_n hx hb d_Mod_cellOf_22 rfl (lv_at hl 1 rfl) ?_
          refine lv_iconst (v := 1) hx hb d_Mod_cellOf_23 (by decide) ?_
          refine lv_iadd hx hb d_Mod_cellOf_24 ?_
          refine lv_goto (tgt := 29) hx hb d_Mod_cellOf_25 (by decide) ?_
          refine lv_istore_n (lv' := [(2, .int (x2_2 + 1)), (3, .int (x3_3 + 1)), (0, .ref q_o), (1, .int a1)]) hx hb d_Mod_cellOf_29 rfl hl (by decide) rfl (fun ls hl => ?_)
          refine lv_goto (tgt := 4) hx hb d_Mod_cellOf_30 (by decide) ?_
          cases h
          exact ih (x2_2 + 1) (x3_3 + 1) H locs ls hr_1 (lv_sub hl [1, 0, 2, 3] rfl) (hP.sub [0, 1] rfl) (hD.sub [0, 1] (by decide) rfl) hS
  exact L_1 n_1 (-1) (-1) H locs ls hn_1 hl hP hD hS

noncomputable def p_Mod_near_L1 (a1 : Int32) (o_thrown : Int32) (o_width : Int32) (o_height : Int32) (o_repeats : Int32) (o_wide : Int32) (o_floor : Int32) (o_across : Int32) (o_down : Int32) (o_sum : Int64) (o_many : Int64) (o_above : Int64) (o_below : Int64) (o_marked : Int32) (o_spots : Int32) (o_days : Int32) (o_firsts_n : Nat) (o_firsts_f : Nat → Int32) : (Int32 × Int32) → Option ((Int32 × Int32) ⊕ (Int32 × Int32)) := fun ((x2_2, x3_3) : Int32 × Int32) =>
  (if 4 ≤ x3_3 then some (.inr (x2_2, x3_3)) else (p_Mod_neighbour a1 x3_3 o_thrown o_width o_height o_repeats o_wide o_floor o_across o_down o_sum o_many o_above o_below o_marked o_spots o_days).bind (fun (v4 : Int32) => (if v4 = (-1) then some (.inl (x2_2, (x3_3 + 1))) else pu_gd (vp_in v4 o_firsts_n) ((if (o_firsts_f v4.toNatClampNeg) = (-1) then some (.inl (x2_2, (x3_3 + 1))) else some (.inl ((x2_2 + 1), (x3_3 + 1))))))))
noncomputable def p_Mod_near (a1 : Int32) (o_thrown : Int32) (o_width : Int32) (o_height : Int32) (o_repeats : Int32) (o_wide : Int32) (o_floor : Int32) (o_across : Int32) (o_down : Int32) (o_sum : Int64) (o_many : Int64) (o_above : Int64) (o_below : Int64) (o_marked : Int32) (o_spots : Int32) (o_days : Int32) (o_firsts_n : Nat) (o_firsts_f : Nat → Int32) : Option (Int32) :=
  (pu_loop (p_Mod_near_L1 a1 o_thrown o_width o_height o_repeats o_wide o_floor o_across o_down o_sum o_many o_above o_below o_marked o_spots o_days o_firsts_n o_firsts_f) (0, 0)).bind (fun ((y2_5, y3_6) : Int32 × Int32) => some y2_5)
set_option maxHeartbeats 4000000 in
set_option maxRecDepth 100000 in
theorem c_Mod_near (l : Launch) (dC : Nat → ClassId) (dI : Nat → Nat → Nat) (cI cJ cZ : ClassId) (q_o q_o_former q_o_later q_o_charts q_o_lows q_o_highs q_o_firsts q_o_changes q_o_dates q_o_kept : Nat) (a1 : Int32) (o_thrown : Int32) (o_width : Int32) (o_height : Int32) (o_repeats : Int32) (o_wide : Int32) (o_floor : Int32) (o_across : Int32) (o_down : Int32) (o_sum : Int64) (o_many : Int64) (o_above : Int64) (o_below : Int64) (o_marked : Int32) (o_spots : Int32) (o_days : Int32) (o_firsts_n : Nat) (o_firsts_f : Nat → Int32) (r0 : Int32) (h : p_Mod_near a1 o_thrown o_width o_height o_repeats o_wide o_floor o_across o_down o_sum o_many o_above o_below o_marked o_spots o_days o_firsts_n o_firsts_f = some r0) : ct l y_Mod_near w_Mod_near rm_Mod_near (dC, dI) [(cI, .int), (cJ, .long), (cZ, .boolean)] [.ref q_o, .int a1] [(q_o, .inr (7, [.int o_thrown, .int o_width, .int o_height, .ref q_o_former, .ref q_o_later, .ref q_o_charts, .ref q_o_lows, .ref q_o_highs, .int o_repeats, .int o_wide, .int o_floor, .int o_across, .int o_down, .long o_sum, .long o_many, .long o_above, .long o_below, .ref q_o_firsts, .ref q_o_changes, .int o_marked, .int o_spots, .int o_days, .ref q_o_dates, .ref q_o_kept])), (q_o_firsts, .inl (cI, o_firsts_n, .inl o_firsts_f))] (fun w => w = [(q_o, .inr (7, [.int o_thrown, .int o_width, .int o_height, .ref q_o_former, .ref q_o_later, .ref q_o_charts, .ref q_o_lows, .ref q_o_highs, .int o_repeats, .int o_wide, .int o_floor, .int o_across, .int o_down, .long o_sum, .long o_many, .long o_above, .long o_below, .ref q_o_firsts, .ref q_o_changes, .int o_marked, .int o_spots, .int o_days, .ref q_o_dates, .ref q_o_kept])), (q_o_firsts, .inl (cI, o_firsts_n, .inl o_firsts_f))]) (some (.int r0)) := by
  refine ct_of (cc := b_Mod_near) (maxL := 5) (ret := (some .int)) (lv := [(0, .ref q_o), (1, .int a1)]) (by decide) rfl rfl rfl ?_
  intro p e s m args below meth c A Q H locs hx hb hml hown hts hin hA hK hN hP hD hS RT ls hl
  unfold p_Mod_near at h
  refine lv_iconst (v := 0) hx hb d_Mod_near_0 (by decide) ?_
  refine lv_istore_n (lv' := [(2, .int 0), (0, .ref q_o), (1, .int a1)]) hx hb d_Mod_near_1 rfl hl (by decide) rfl (fun ls hl => ?_)
  refine lv_iconst (v := 0) hx hb d_Mod_near_2 (by decide) ?_
  refine lv_istore_n (lv' := [(3, .int 0), (2, .int 0), (0, .ref q_o), (1, .int a1)]) hx hb d_Mod_near_3 rfl hl (by decide) rfl (fun ls hl => ?_)
  obtain ⟨e_1, he_1, hx_1⟩ := pu_bd h
  obtain ⟨n_1, hn_1⟩ := pu_loop_it he_1
  have K_1 : ∀ (y2_5 : Int32) (y3_6 : Int32) (H : Heap) (locs : List Loc) (ls : Array Slot), e_1 = (y2_5, y3_6) → lv_has ls 5 [(3, .int y3_6), (2, .int y2_5), (0, .ref q_o), (1, .int a1)] → va_P (dC, dI) vwCl [(q_o, .inr (7, [.int o_thrown, .int o_width, .int o_height, .ref q_o_former, .ref q_o_later, .ref q_o_charts, .ref q_o_lows, .ref q_o_highs, .int o_repeats, .int o_wide, .int o_floor, .int o_across, .int o_down, .long o_sum, .long o_many, .long o_above, .long o_below, .ref q_o_firsts, .ref q_o_changes, .int o_marked, .int o_spots, .int o_days, .ref q_o_dates, .ref q_o_kept])), (q_o_firsts, .inl (cI, o_firsts_n, .inl o_firsts_f))] H → va_D A [(q_o, .inr (7, [.int o_thrown, .int o_width, .int o_height, .ref q_o_former, .ref q_o_later, .ref q_o_charts, .ref q_o_lows, .ref q_o_highs, .int o_repeats, .int o_wide, .int o_floor, .int o_across, .int o_down, .long o_sum, .long o_many, .long o_above, .long o_below, .ref q_o_firsts, .ref q_o_changes, .int o_marked, .int o_spots, .int o_days, .ref q_o_dates, .ref q_o_kept])), (q_o_firsts, .inl (cI, o_firsts_n, .inl o_firsts_f))] → va_S A s.heap H locs → W p l e rm_Mod_near s m args below meth c H locs 0 0 Q (F0 m 48 ls []) := by
    intro y2_5 y3_6 H locs ls he hl hP hD hS
    have h := hx_1
    rw [he] at h
    try dsimp only at h
    refine lv_iload_n hx hb d_Mod_near_48 rfl (lv_at hl 1 rfl) ?_
    cases h
    refine W.widen (k := 0) (n := 0) (Nat.le_of_ble_eq_true rfl) (Nat.le_of_ble_eq_true rfl) ?_
    exact RT 49 ls H locs _ d_Mod_near_49 (Or.inr (Or.inl ⟨rfl, _, rfl⟩)) rfl (hP.sub [0, 1] rfl) (hD.sub [0, 1] (by decide) rfl) hS
  have L_1 : ∀ (n : Nat) (x2_2 : Int32) (x3_3 : Int32) (H : Heap) (locs : List Loc) (ls : Array Slot), pu_it (p_Mod_near_L1 a1 o_thrown o_width o_height o_repeats o_wide o_floor o_across o_down o_sum o_many o_above o_below o_marked o_spots o_days o_firsts_n o_firsts_f) n (x2_2, x3_3) = some e_1 → lv_has ls 5 [(3, .int x3_3), (2, .int x2_2), (0, .ref q_o), (1, .int a1)] → va_P (dC, dI) vwCl [(q_o, .inr (7, [.int o_thrown, .int o_width, .int o_height, .ref q_o_former, .ref q_o_later, .ref q_o_charts, .ref q_o_lows, .ref q_o_highs, .int o_repeats, .int o_wide, .int o_floor, .int o_across, .int o_down, .long o_sum, .long o_many, .long o_above, .long o_below, .ref q_o_firsts, .ref q_o_changes, .int o_marked, .int o_spots, .int o_days, .ref q_o_dates, .ref q_o_kept])), (q_o_firsts, .inl (cI, o_firsts_n, .inl o_firsts_f))] H → va_D A [(q_o, .inr (7, [.int o_thrown, .int o_width, .int o_height, .ref q_o_former, .ref q_o_later, .ref q_o_charts, .ref q_o_lows, .ref q_o_highs, .int o_repeats, .int o_wide, .int o_floor, .int o_across, .int o_down, .long o_sum, .long o_many, .long o_above, .long o_below, .ref q_o_firsts, .ref q_o_changes, .int o_marked, .int o_spots, .int o_days, .ref q_o_dates, .ref q_o_kept])), (q_o_firsts, .inl (cI, o_firsts_n, .inl o_firsts_f))] → va_S A s.heap H locs → W p l e rm_Mod_near s m args below meth c H locs 0 0 Q (F0 m 4 ls []) := by
    intro n
    induction n with
    | zero => intro x2_2 x3_3 H locs ls hn; exact (pu_it_0 hn).elim
    | succ n ih =>
      intro x2_2 x3_3 H locs ls hn hl hP hD hS
      obtain ⟨r_1, h, hr_1⟩ := pu_it_succ hn
      unfold p_Mod_near_L1 at h
      try dsimp only at h
      refine lv_iload_n hx hb d_Mod_near_4 rfl (lv_at hl 0 rfl) ?_
      refine lv_iconst (v := 4) hx hb d_Mod_near_5 (by decide) ?_
      refine lv_icmp_ge (tgt := 48) hx hb d_Mod_near_6 (by decide) (fun hc => ?_) (fun hc => ?_)
      · have h := pu_t hc h
        cases h
        exact K_1 x2_2 x3_3 H locs ls hr_1.symm (lv_sub hl [0, 1, 2, 3] rfl) (hP.sub [0, 1] rfl) (hD.sub [0, 1] (by decide) rfl) hS
      · have h := pu_f hc h
        refine lv_aload_n hx hb d_Mod_near_9 rfl (lv_at hl 2 rfl) ?_
        refine lv_iload_n hx hb d_Mod_near_10 rfl (lv_at hl 3 rfl) ?_
        refine lv_iload_n hx hb d_Mod_near_11 rfl (lv_at hl 0 rfl) ?_
        obtain ⟨v4, hu4, h⟩ := pu_bd h
        refine cc_V (As := [.int a1, .int x3_3]) (rest := []) ⟨hx, hb, hml, hown, hts⟩ (c_Mod_neighbour l dC dI cI cJ cZ q_o q_o_former q_o_later q_o_charts q_o_lows q_o_highs q_o_firsts q_o_changes q_o_dates q_o_kept a1 x3_3 o_thrown o_width o_height o_repeats o_wide o_floor o_across o_down o_sum o_many o_above o_below o_marked o_spots o_days v4 hu4) (cwV 2 hts (gV k_777 k_779 kp_25 k_9 k_780 rfl) rfl rfl rfl hdV_Mod_neighbour ⟨Nat.le_of_ble_eq_true rfl, Nat.le_of_ble_eq_true rfl⟩) hK hN hP hD hS hA [0] [1] (w0 := [(q_o, .inr (7, [.int o_thrown, .int o_width, .int o_height, .ref q_o_former, .ref q_o_later, .ref q_o_charts, .ref q_o_lows, .ref q_o_highs, .int o_repeats, .int o_wide, .int o_floor, .int o_across, .int o_down, .long o_sum, .long o_many, .long o_above, .long o_below, .ref q_o_firsts, .ref q_o_changes, .int o_marked, .int o_spots, .int o_days, .ref q_o_dates, .ref q_o_kept]))]) (wr := [(q_o_firsts, .inl (cI, o_firsts_n, .inl o_firsts_f))]) rfl rfl (by decide) (by decide) (by decide) 7 rfl rfl rfl hl.1 rfl (Nat.le_of_ble_eq_true rfl) d_Mod_near_12 ⟨Nat.le_of_ble_eq_true rfl, Nat.le_of_ble_eq_true rfl⟩ (fun w1 H locs hw1 hP hD hS => ?_)
        subst hw1
        have hP : va_P (dC, dI) vwCl [(q_o_firsts, .inl (cI, o_firsts_n, .inl o_firsts_f)), (q_o, .inr (7, [.int o_thrown, .int o_width, .int o_height, .ref q_o_former, .ref q_o_later, .ref q_o_charts, .ref q_o_lows, .ref q_o_highs, .int o_repeats, .int o_wide, .int o_floor, .int o_across, .int o_down, .long o_sum, .long o_many, .long o_above, .long o_below, .ref q_o_firsts, .ref q_o_changes, .int o_marked, .int o_spots, .int o_days, .ref q_o_dates, .ref q_o_kept]))] H := hP
        have hD : va_D A [(q_o_firsts, .inl (cI, o_firsts_n, .inl o_firsts_f)), (q_o, .inr (7, [.int o_thrown, .int o_width, .int o_height, .ref q_o_former, .ref q_o_later, .ref q_o_charts, .ref q_o_lows, .ref q_o_highs, .int o_repeats, .int o_wide, .int o_floor, .int o_across, .int o_down, .long o_sum, .long o_many, .long o_above, .long o_below, .ref q_o_firsts, .ref q_o_changes, .int o_marked, .int o_spots, .int o_days, .ref q_o_dates, .ref q_o_kept]))] := hD
        refine lv_istore (lv' := [(4, .int v4), (3, .int x3_3), (2, .int x2_2), (0, .ref q_o), (1, .int a1)]) hx hb d_Mod_near_15 hl (by decide) rfl (fun ls hl => ?_)
        refine lv_iload hx hb d_Mod_near_17 (lv_at hl 0 rfl) ?_
        refine lv_iconst (v := (-1)) hx hb d_Mod_near_19 (by decide) ?_
        refine lv_icmp_eq (tgt := 40) hx hb d_Mod_near_20 (by decide) (fun hc => ?_) (fun hc => ?_)
        · have h := pu_t hc h
          refine lv_iload_n hx hb d_Mod_near_40 rfl (lv_at hl 2 rfl) ?_
          refine lv_istore_n (lv' := [(2, .int x2_2), (4, .int v4), (3, .int x3_3), (0, .ref q_o), (1, .int a1)]) hx hb d_Mod_near_41 rfl hl (by decide) rfl (fun ls hl => ?_)
          refine lv_iinc (v := (x3_3 + 1)) (lv' := [(3, .int (x3_3 + 1)), (2, .int x2_2), (4, .int v4), (0, .ref q_o), (1, .int a1)]) hx hb d_Mod_near_42 hl (k := 2) rfl rfl (by decide) rfl (fun ls hl => ?_)
          refine lv_goto (tgt := 4) hx hb d_Mod_near_45 (by decide) ?_
          cases h
          exact ih x2_2 (x3_3 + 1) H locs ls hr_1 (lv_sub hl [0, 1, 3, 4] rfl) (hP.sub [1, 0] rfl) (hD.sub [1, 0] (by decide) rfl) hS
        · have h := pu_f hc h
          refine lv_aload_n hx hb d_Mod_near_23 rfl (lv_at hl 3 rfl) ?_
          refine va_get (D := (dC, dI)) (ci := 7) (v := .ref q_o_firsts) (C := R_Mod) (T := F_Mod) (N := 24) hx hb hts i_Mod hown hK hP 1 rfl rfl 17 (by decide) (hts _ k_625) (fun _ h9 => h9) rfl d_Mod_near_24 ?_
          refine lv_iload hx hb d_Mod_near_27 (lv_at hl 0 rfl) ?_
          obtain ⟨hg, h⟩ := pu_g h
          refine va_iald hx hb hK hP 0 0 rfl rfl hg d_Mod_near_29 ?_
          refine lv_iconst (v := (-1)) hx hb d_Mod_near_30 (by decide) ?_
          refine lv_icmp_eq (tgt := 40) hx hb d_Mod_near_31 (by decide) (fun hc => ?_) (fun hc => ?_)
          · have h := pu_t hc h
            refine lv_iload_n hx hb d_Mod_near_40 rfl (lv_at hl 2 rfl) ?_
            refine lv_istore_n (lv' := [(2, .int x2_2), (4, .int v4), (3, .int x3_3), (0, .ref q_o), (1, .int a1)]) hx hb d_Mod_near_41 rfl hl (by decide) rfl (fun ls hl => ?_)
            refine lv_iinc (v := (x3_3 + 1)) (lv' := [(3, .int (x3_3 + 1)), (2, .int x2_2), (4, .int v4), (0, .ref q_o), (1, .int a1)]) hx hb d_Mod_near_42 hl (k := 2) rfl rfl (by decide) rfl (fun ls hl => ?_)
            refine lv_goto (tgt := 4) hx hb d_Mod_near_45 (by decide) ?_
            cases h
            exact ih x2_2 (x3_3 + 1) H locs ls hr_1 (lv_sub hl [0, 1, 3, 4] rfl) (hP.sub [1, 0] rfl) (hD.sub [1, 0] (by decide) rfl) hS
          · have h := pu_f hc h
            refine lv_iload_n hx hb d_Mod_near_34 rfl (lv_at hl 2 rfl) ?_
            refine lv_iconst (v := 1) hx hb d_Mod_near_35 (by decide) ?_
            refine lv_iadd hx hb d_Mod_near_36 ?_
            refine lv_goto (tgt := 41) hx hb d_Mod_near_37 (by decide) ?_
            refine lv_istore_n (lv' := [(2, .int (x2_2 + 1)), (4, .int v4), (3, .int x3_3), (0, .ref q_o), (1, .int a1)]) hx hb d_Mod_near_41 rfl hl (by decide) rfl (fun ls hl => ?_)
            refine lv_iinc (v := (x3_3 + 1)) (lv' := [(3, .int (x3_3 + 1)), (2, .int (x2_2 + 1)), (4, .int v4), (0, .ref q_o), (1, .int a1)]) hx hb d_Mod_near_42 hl (k := 2) rfl rfl (by decide) rfl (fun ls hl => ?_)
            refine lv_goto (tgt := 4) hx hb d_Mod_near_45 (by decide) ?_
            cases h
            exact ih (x2_2 + 1) (x3_3 + 1) H locs ls hr_1 (lv_sub hl [0, 1, 3, 4] rfl) (hP.sub [1, 0] rfl) (hD.sub [1, 0] (by decide) rfl) hS
  exact L_1 n_1 0 0 H locs ls hn_1 hl hP hD hS

noncomputable def p_Mod_numbers_L2 (o_thrown : Int32) (o_width : Int32) (o_height : Int32) (o_repeats : Int32) (o_wide : Int32) (o_floor : Int32) (o_across : Int32) (o_down : Int32) (o_sum : Int64) (o_many : Int64) (o_above : Int64) (o_below : Int64) (o_marked : Int32) (o_spots : Int32) (o_days : Int32) (o_firsts_n : Nat) (o_firsts_f : Nat → Int32) (o_changes_n : Nat) (o_changes_f : Nat → Int32) (v1 : Int32) : (Int32 × Int32 × Int32 × Int32 × Int32 × Int32 × Int32 × Int32 × Int32) → Option ((Int32 × Int32 × Int32 × Int32 × Int32 × Int32 × Int32 × Int32 × Int32) ⊕ (Int32 × Int32 × Int32 × Int32 × Int32 × Int32 × Int32 × Int32 × Int32)) := fun ((x4_3, x5_4, x6_5, x7_6, x8_7, x9_8, x10_9, x11_10, x12_11) : Int32 × Int32 × Int32 × Int32 × Int32 × Int32 × Int32 × Int32 × Int32) =>
  (if 576 ≤ x12_11 then some (.inr (x4_3, x5_4, x6_5, x7_6, x8_7, x9_8, x10_9, x11_10, x12_11)) else pu_gd (vp_in x12_11 o_firsts_n) ((if (o_firsts_f x12_11.toNatClampNeg) = v1 then pu_gd (vp_in x12_11 o_changes_n) (pu_gd (¬ (24 : Int32) = 0) (((if x6_5 ≤ (x12_11 - x12_11 / 24 * 24) then some x6_5 else pu_gd (¬ (24 : Int32) = 0) (some (x12_11 - x12_11 / 24 * 24)))).bind (fun (j12_13 : Int32) => pu_gd (¬ (24 : Int32) = 0) (((if x7_6 ≤ (x12_11 / 24) then some x7_6 else pu_gd (¬ (24 : Int32) = 0) (some (x12_11 / 24)))).bind (fun (j14_15 : Int32) => pu_gd (¬ (24 : Int32) = 0) (((if (x12_11 - x12_11 / 24 * 24) ≤ x8_7 then some x8_7 else pu_gd (¬ (24 : Int32) = 0) (some (x12_11 - x12_11 / 24 * 24)))).bind (fun (j16_17 : Int32) => pu_gd (¬ (24 : Int32) = 0) (((if (x12_11 / 24) ≤ x9_8 then some x9_8 else pu_gd (¬ (24 : Int32) = 0) (some (x12_11 / 24)))).bind (fun (j18_19 : Int32) => ((if x11_10 = 0 then some 0 else (p_Mod_near x12_11 o_thrown o_width o_height o_repeats o_wide o_floor o_across o_down o_sum o_many o_above o_below o_marked o_spots o_days o_firsts_n o_firsts_f).bind (fun (v21 : Int32) => (if 2 < v21 then some 0 else some 1)))).bind (fun (j20_22 : Int32) => (p_Mod_near x12_11 o_thrown o_width o_height o_repeats o_wide o_floor o_across o_down o_sum o_many o_above o_below o_marked o_spots o_days o_firsts_n o_firsts_f).bind (fun (v23 : Int32) => (if v23 = 1 then some (.inl ((x4_3 + 1), (x5_4 + (o_changes_f x12_11.toNatClampNeg)), j12_13, j14_15, j16_17, j18_19, (x10_9 + 1), j20_22, (x12_11 + 1))) else some (.inl ((x4_3 + 1), (x5_4 + (o_changes_f x12_11.toNatClampNeg)), j12_13, j14_15, j16_17, j18_19, x10_9, j20_22, (x12_11 + 1))))))))))))))) else some (.inl (x4_3, x5_4, x6_5, x7_6, x8_7, x9_8, x10_9, x11_10, (x12_11 + 1))))))
noncomputable def p_Mod_numbers (a1 : Int32) (a2 : Int32) (o_thrown : Int32) (o_width : Int32) (o_height : Int32) (o_repeats : Int32) (o_wide : Int32) (o_floor : Int32) (o_across : Int32) (o_down : Int32) (o_sum : Int64) (o_many : Int64) (o_above : Int64) (o_below : Int64) (o_marked : Int32) (o_spots : Int32) (o_days : Int32) (o_firsts_n : Nat) (o_firsts_f : Nat → Int32) (o_changes_n : Nat) (o_changes_f : Nat → Int32) : Option (Int32) :=
  (p_Mod_cellOf a1 o_thrown o_width o_height o_repeats o_wide o_floor o_across o_down o_sum o_many o_above o_below o_marked o_spots o_days o_firsts_n o_firsts_f).bind (fun (v1 : Int32) => (pu_loop (p_Mod_numbers_L2 o_thrown o_width o_height o_repeats o_wide o_floor o_across o_down o_sum o_many o_above o_below o_marked o_spots o_days o_firsts_n o_firsts_f o_changes_n o_changes_f v1) (0, 0, 99, 99, (-1), (-1), 0, 1, 0)).bind (fun ((y4_24, y5_25, y6_26, y7_27, y8_28, y9_29, y10_30, y11_31, y12_32) : Int32 × Int32 × Int32 × Int32 × Int32 × Int32 × Int32 × Int32 × Int32) => (if a2 = 0 then some y4_24 else (if a2 = 1 then some y5_25 else (if a2 = 2 then some y6_26 else (if a2 = 3 then some y7_27 else (if a2 = 4 then some y8_28 else (if a2 = 5 then some y9_29 else (if y4_24 ≤ 2 then some (-1) else (if y11_31 = 0 then some (-1) else (if y10_30 = 2 then some (y4_24 - 1) else some (-1))))))))))))
set_option maxHeartbeats 4000000 in
set_option maxRecDepth 100000 in
theorem c_Mod_numbers (l : Launch) (dC : Nat → ClassId) (dI : Nat → Nat → Nat) (cI cJ cZ : ClassId) (q_o q_o_former q_o_later q_o_charts q_o_lows q_o_highs q_o_firsts q_o_changes q_o_dates q_o_kept : Nat) (a1 : Int32) (a2 : Int32) (o_thrown : Int32) (o_width : Int32) (o_height : Int32) (o_repeats : Int32) (o_wide : Int32) (o_floor : Int32) (o_across : Int32) (o_down : Int32) (o_sum : Int64) (o_many : Int64) (o_above : Int64) (o_below : Int64) (o_marked : Int32) (o_spots : Int32) (o_days : Int32) (o_firsts_n : Nat) (o_firsts_f : Nat → Int32) (o_changes_n : Nat) (o_changes_f : Nat → Int32) (r0 : Int32) (h : p_Mod_numbers a1 a2 o_thrown o_width o_height o_repeats o_wide o_floor o_across o_down o_sum o_many o_above o_below o_marked o_spots o_days o_firsts_n o_firsts_f o_changes_n o_changes_f = some r0) : ct l y_Mod_numbers w_Mod_numbers rm_Mod_numbers (dC, dI) [(cI, .int), (cJ, .long), (cZ, .boolean)] [.ref q_o, .int a1, .int a2] [(q_o, .inr (7, [.int o_thrown, .int o_width, .int o_height, .ref q_o_former, .ref q_o_later, .ref q_o_charts, .ref q_o_lows, .ref q_o_highs, .int o_repeats, .int o_wide, .int o_floor, .int o_across, .int o_down, .long o_sum, .long o_many, .long o_above, .long o_below, .ref q_o_firsts, .ref q_o_changes, .int o_marked, .int o_spots, .int o_days, .ref q_o_dates, .ref q_o_kept])), (q_o_firsts, .inl (cI, o_firsts_n, .inl o_firsts_f)), (q_o_changes, .inl (cI, o_changes_n, .inl o_changes_f))] (fun w => w = [(q_o, .inr (7, [.int o_thrown, .int o_width, .int o_height, .ref q_o_former, .ref q_o_later, .ref q_o_charts, .ref q_o_lows, .ref q_o_highs, .int o_repeats, .int o_wide, .int o_floor, .int o_across, .int o_down, .long o_sum, .long o_many, .long o_above, .long o_below, .ref q_o_firsts, .ref q_o_changes, .int o_marked, .int o_spots, .int o_days, .ref q_o_dates, .ref q_o_kept])), (q_o_firsts, .inl (cI, o_firsts_n, .inl o_firsts_f)), (q_o_changes, .inl (cI, o_changes_n, .inl o_changes_f))]) (some (.int r0)) := by
  refine ct_of (cc := b_Mod_numbers) (maxL := 13) (ret := (some .int)) (lv := [(0, .ref q_o), (1, .int a1), (2, .int a2)]) (by decide) rfl rfl rfl ?_
  intro p e s m args below meth c A Q H locs hx hb hml hown hts hin hA hK hN hP hD hS RT ls hl
  unfold p_Mod_numbers at h
  refine lv_aload_n hx hb d_Mod_numbers_0 rfl (lv_at hl 0 rfl) ?_
  refine lv_iload_n hx hb d_Mod_numbers_1 rfl (lv_at hl 1 rfl) ?_
  obtain ⟨v1, hu1, h⟩ := pu_bd h
  refine cc_V (As := [.int a1]) (rest := []) ⟨hx, hb, hml, hown, hts⟩ (c_Mod_cellOf l dC dI cI cJ cZ q_o q_o_former q_o_later q_o_charts q_o_lows q_o_highs q_o_firsts q_o_changes q_o_dates q_o_kept a1 o_thrown o_width o_height o_repeats o_wide o_floor o_across o_down o_sum o_many o_above o_below o_marked o_spots o_days o_firsts_n o_firsts_f v1 hu1) (cwV 1 hts (gV k_789 k_791 kp_27 k_9 k_792 rfl) rfl rfl rfl hdV_Mod_cellOf ⟨Nat.le_of_ble_eq_true rfl, Nat.le_of_ble_eq_true rfl⟩) hK hN hP hD hS hA [0, 1] [2] (w0 := [(q_o, .inr (7, [.int o_thrown, .int o_width, .int o_height, .ref q_o_former, .ref q_o_later, .ref q_o_charts, .ref q_o_lows, .ref q_o_highs, .int o_repeats, .int o_wide, .int o_floor, .int o_across, .int o_down, .long o_sum, .long o_many, .long o_above, .long o_below, .ref q_o_firsts, .ref q_o_changes, .int o_marked, .int o_spots, .int o_days, .ref q_o_dates, .ref q_o_kept])), (q_o_firsts, .inl (cI, o_firsts_n, .inl o_firsts_f))]) (wr := [(q_o_changes, .inl (cI, o_changes_n, .inl o_changes_f))]) rfl rfl (by decide) (by decide) (by decide) 7 rfl rfl rfl hl.1 rfl (Nat.le_of_ble_eq_true rfl) d_Mod_numbers_2 ⟨Nat.le_of_ble_eq_true rfl, Nat.le_of_ble_eq_true rfl⟩ (fun w1 H locs hw1 hP hD hS => ?_)
  subst hw1
  have hP : va_P (dC, dI) vwCl [(q_o_changes, .inl (cI, o_changes_n, .inl o_changes_f)), (q_o, .inr (7, [.int o_thrown, .int o_width, .int o_height, .ref q_o_former, .ref q_o_later, .ref q_o_charts, .ref q_o_lows, .ref q_o_highs, .int o_repeats, .int o_wide, .int o_floor, .int o_across, .int o_down, .long o_sum, .long o_many, .long o_above, .long o_below, .ref q_o_firsts, .ref q_o_changes, .int o_marked, .int o_spots, .int o_days, .ref q_o_dates, .ref q_o_kept])), (q_o_firsts, .inl (cI, o_firsts_n, .inl o_firsts_f))] H := hP
  have hD : va_D A [(q_o_changes, .inl (cI, o_changes_n, .inl o_changes_f)), (q_o, .inr (7, [.int o_thrown, .int o_width, .int o_height, .ref q_o_former, .ref q_o_later, .ref q_o_charts, .ref q_o_lows, .ref q_o_highs, .int o_repeats, .int o_wide, .int o_floor, .int o_across, .int o_down, .long o_sum, .long o_many, .long o_above, .long o_below, .ref q_o_firsts, .ref q_o_changes, .int o_marked, .int o_spots, .int o_days, .ref q_o_dates, .ref q_o_kept])), (q_o_firsts, .inl (cI, o_firsts_n, .inl o_firsts_f))] := hD
  refine lv_istore_n (lv' := [(3, .int v1), (0, .ref q_o), (1, .int a1), (2, .int a2)]) hx hb d_Mod_numbers_5 rfl hl (by decide) rfl (fun ls hl => ?_)
  refine lv_iconst (v := 0) hx hb d_Mod_numbers_6 (by decide) ?_
  refine lv_istore (lv' := [(4, .int 0), (3, .int v1), (0, .ref q_o), (1, .int a1), (2, .int a2)]) hx hb d_Mod_numbers_7 hl (by decide) rfl (fun ls hl => ?_)
  refine lv_iconst (v := 0) hx hb d_Mod_numbers_9 (by decide) ?_
  refine lv_istore (lv' := [(5, .int 0), (4, .int 0), (3, .int v1), (0, .ref q_o), (1, .int a1), (2, .int a2)]) hx hb d_Mod_numbers_10 hl (by decide) rfl (fun ls hl => ?_)
  refine lv_bipush (v := 99) hx hb d_Mod_numbers_12 (by decide) ?_
  refine lv_istore (lv' := [(6, .int 99), (5, .int 0), (4, .int 0), (3, .int v1), (0, .ref q_o), (1, .int a1), (2, .int a2)]) hx hb d_Mod_numbers_14 hl (by decide) rfl (fun ls hl => ?_)
  refine lv_bipush (v := 99) hx hb d_Mod_numbers_16 (by decide) ?_
  refine lv_istore (lv' := [(7, .int 99), (6, .int 99), (5, .int 0), (4, .int 0), (3, .int v1), (0, .ref q_o), (1, .int a1), (2, .int a2)]) hx hb d_Mod_numbers_18 hl (by decide) rfl (fun ls hl => ?_)
  refine lv_iconst (v := (-1)) hx hb d_Mod_numbers_20 (by decide) ?_
  refine lv_istore (lv' := [(8, .int (-1)), (7, .int 99), (6, .int 99), (5, .int 0), (4, .int 0), (3, .int v1), (0, .ref q_o), (1, .int a1), (2, .int a2)]) hx hb d_Mod_numbers_21 hl (by decide) rfl (fun ls hl => ?_)
  refine lv_iconst (v := (-1)) hx hb d_Mod_numbers_23 (by decide) ?_
  refine lv_istore (lv' := [(9, .int (-1)), (8, .int (-1)), (7, .int 99), (6, .int 99), (5, .int 0), (4, .int 0), (3, .int v1), (0, .ref q_o), (1, .int a1), (2, .int a2)]) hx hb d_Mod_numbers_24 hl (by decide) rfl (fun ls hl => ?_)
  refine lv_iconst (v := 0) hx hb d_Mod_numbers_26 (by decide) ?_
  refine lv_istore (lv' := [(10, .int 0), (9, .int (-1)), (8, .int (-1)), (7, .int 99), (6, .int 99), (5, .int 0), (4, .int 0), (3, .int v1), (0, .ref q_o), (1, .int a1), (2, .int a2)]) hx hb d_Mod_numbers_27 hl (by decide) rfl (fun ls hl => ?_)
  refine lv_iconst (v := 1) hx hb d_Mod_numbers_29 (by decide) ?_
  refine lv_istore (lv' := [(11, .int 1), (10, .int 0), (9, .int (-1)), (8, .int (-1)), (7, .int 99), (6, .int 99), (5, .int 0), (4, .int 0), (3, .int v1), (0, .ref q_o), (1, .int a1), (2, .int a2)]) hx hb d_Mod_numbers_30 hl (by decide) rfl (fun ls hl => ?_)
  refine lv_iconst (v := 0) hx hb d_Mod_numbers_32 (by decide) ?_
  refine lv_istore (lv' := [(12, .int 0), (11, .int 1), (10, .int 0), (9, .int (-1)), (8, .int (-1)), (7, .int 99), (6, .int 99), (5, .int 0), (4, .int 0), (3, .int v1), (0, .ref q_o), (1, .int a1), (2, .int a2)]) hx hb d_Mod_numbers_33 hl (by decide) rfl (fun ls hl => ?_)
  obtain ⟨e_2, he_2, hx_2⟩ := pu_bd h
  obtain ⟨n_2, hn_2⟩ := pu_loop_it he_2
  have K_2 : ∀ (y4_24 : Int32) (y5_25 : Int32) (y6_26 : Int32) (y7_27 : Int32) (y8_28 : Int32) (y9_29 : Int32) (y10_30 : Int32) (y11_31 : Int32) (y12_32 : Int32) (H : Heap) (locs : List Loc) (ls : Array Slot), e_2 = (y4_24, y5_25, y6_26, y7_27, y8_28, y9_29, y10_30, y11_31, y12_32) → lv_has ls 13 [(12, .int y12_32), (11, .int y11_31), (10, .int y10_30), (9, .int y9_29), (8, .int y8_28), (7, .int y7_27), (6, .int y6_26), (5, .int y5_25), (4, .int y4_24), (3, .int v1), (0, .ref q_o), (1, .int a1), (2, .int a2)] → va_P (dC, dI) vwCl [(q_o_changes, .inl (cI, o_changes_n, .inl o_changes_f)), (q_o, .inr (7, [.int o_thrown, .int o_width, .int o_height, .ref q_o_former, .ref q_o_later, .ref q_o_charts, .ref q_o_lows, .ref q_o_highs, .int o_repeats, .int o_wide, .int o_floor, .int o_across, .int o_down, .long o_sum, .long o_many, .long o_above, .long o_below, .ref q_o_firsts, .ref q_o_changes, .int o_marked, .int o_spots, .int o_days, .ref q_o_dates, .ref q_o_kept])), (q_o_firsts, .inl (cI, o_firsts_n, .inl o_firsts_f))] H → va_D A [(q_o_changes, .inl (cI, o_changes_n, .inl o_changes_f)), (q_o, .inr (7, [.int o_thrown, .int o_width, .int o_height, .ref q_o_former, .ref q_o_later, .ref q_o_charts, .ref q_o_lows, .ref q_o_highs, .int o_repeats, .int o_wide, .int o_floor, .int o_across, .int o_down, .long o_sum, .long o_many, .long o_above, .long o_below, .ref q_o_firsts, .ref q_o_changes, .int o_marked, .int o_spots, .int o_days, .ref q_o_dates, .ref q_o_kept])), (q_o_firsts, .inl (cI, o_firsts_n, .inl o_firsts_f))] → va_S A s.heap H locs → W p l e rm_Mod_numbers s m args below meth c H locs 0 0 Q (F0 m 206 ls []) := by
    intro y4_24 y5_25 y6_26 y7_27 y8_28 y9_29 y10_30 y11_31 y12_32 H locs ls he hl hP hD hS
    have h := hx_2
    rw [he] at h
    try dsimp only at h
    refine lv_iload_n hx hb d_Mod_numbers_206 rfl (lv_at hl 12 rfl) ?_
    by_cases hc0 : a2 = 0
    · have h := pu_t hc0 h
      refine sw_in (v := 0) (tgt := 244) hx hb d_Mod_numbers_207 hc0 (by decide) (by decide) rfl (by decide) ?_
      refine lv_iload hx hb d_Mod_numbers_244 (lv_at hl 8 rfl) ?_
      cases h
      refine W.widen (k := 0) (n := 0) (Nat.le_of_ble_eq_true rfl) (Nat.le_of_ble_eq_true rfl) ?_
      exact RT 246 ls H locs _ d_Mod_numbers_246 (Or.inr (Or.inl ⟨rfl, _, rfl⟩)) rfl (hP.sub [1, 2, 0] rfl) (hD.sub [1, 2, 0] (by decide) rfl) hS
    have h := pu_f hc0 h
    by_cases hc1 : a2 = 1
    · have h := pu_t hc1 h
      refine sw_in (v := 1) (tgt := 247) hx hb d_Mod_numbers_207 hc1 (by decide) (by decide) rfl (by decide) ?_
      refine lv_iload hx hb d_Mod_numbers_247 (lv_at hl 7 rfl) ?_
      cases h
      refine W.widen (k := 0) (n := 0) (Nat.le_of_ble_eq_true rfl) (Nat.le_of_ble_eq_true rfl) ?_
      exact RT 249 ls H locs _ d_Mod_numbers_249 (Or.inr (Or.inl ⟨rfl, _, rfl⟩)) rfl (hP.sub [1, 2, 0] rfl) (hD.sub [1, 2, 0] (by decide) rfl) hS
    have h := pu_f hc1 h
    by_cases hc2 : a2 = 2
    · have h := pu_t hc2 h
      refine sw_in (v := 2) (tgt := 250) hx hb d_Mod_numbers_207 hc2 (by decide) (by decide) rfl (by decide) ?_
      refine lv_iload hx hb d_Mod_numbers_250 (lv_at hl 6 rfl) ?_
      cases h
      refine W.widen (k := 0) (n := 0) (Nat.le_of_ble_eq_true rfl) (Nat.le_of_ble_eq_true rfl) ?_
      exact RT 252 ls H locs _ d_Mod_numbers_252 (Or.inr (Or.inl ⟨rfl, _, rfl⟩)) rfl (hP.sub [1, 2, 0] rfl) (hD.sub [1, 2, 0] (by decide) rfl) hS
    have h := pu_f hc2 h
    by_cases hc3 : a2 = 3
    · have h := pu_t hc3 h
      refine sw_in (v := 3) (tgt := 253) hx hb d_Mod_numbers_207 hc3 (by decide) (by decide) rfl (by decide) ?_
      refine lv_iload hx hb d_Mod_numbers_253 (lv_at hl 5 rfl) ?_
      cases h
      refine W.widen (k := 0) (n := 0) (Nat.le_of_ble_eq_true rfl) (Nat.le_of_ble_eq_true rfl) ?_
      exact RT 255 ls H locs _ d_Mod_numbers_255 (Or.inr (Or.inl ⟨rfl, _, rfl⟩)) rfl (hP.sub [1, 2, 0] rfl) (hD.sub [1, 2, 0] (by decide) rfl) hS
    have h := pu_f hc3 h
    by_cases hc4 : a2 = 4
    · have h := pu_t hc4 h
      refine sw_in (v := 4) (tgt := 256) hx hb d_Mod_numbers_207 hc4 (by decide) (by decide) rfl (by decide) ?_
      refine lv_iload hx hb d_Mod_numbers_256 (lv_at hl 4 rfl) ?_
      cases h
      refine W.widen (k := 0) (n := 0) (Nat.le_of_ble_eq_true rfl) (Nat.le_of_ble_eq_true rfl) ?_
      exact RT 258 ls H locs _ d_Mod_numbers_258 (Or.inr (Or.inl ⟨rfl, _, rfl⟩)) rfl (hP.sub [1, 2, 0] rfl) (hD.sub [1, 2, 0] (by decide) rfl) hS
    have h := pu_f hc4 h
    by_cases hc5 : a2 = 5
    · have h := pu_t hc5 h
      refine sw_in (v := 5) (tgt := 259) hx hb d_Mod_numbers_207 hc5 (by decide) (by decide) rfl (by decide) ?_
      refine lv_iload hx hb d_Mod_numbers_259 (lv_at hl 3 rfl) ?_
      cases h
      refine W.widen (k := 0) (n := 0) (Nat.le_of_ble_eq_true rfl) (Nat.le_of_ble_eq_true rfl) ?_
      exact RT 261 ls H locs _ d_Mod_numbers_261 (Or.inr (Or.inl ⟨rfl, _, rfl⟩)) rfl (hP.sub [1, 2, 0] rfl) (hD.sub [1, 2, 0] (by decide) rfl) hS
    have h := pu_f hc5 h
    refine sw_out (tgt := 262) hx hb d_Mod_numbers_207 ?_ (by decide) ?_
    · have h0 := sw_ne (n := 0) hc0 rfl; have h1 := sw_ne (n := 1) hc1 rfl; have h2 := sw_ne (n := 2) hc2 rfl; have h3 := sw_ne (n := 3) hc3 rfl; have h4 := sw_ne (n := 4) hc4 rfl; have h5 := sw_ne (n := 5) hc5 rfl; omega
    refine lv_iload hx hb d_Mod_numbers_262 (lv_at hl 8 rfl) ?_
    refine lv_iconst (v := 2) hx hb d_Mod_numbers_264 (by decide) ?_
    refine lv_icmp_le (tgt := 286) hx hb d_Mod_numbers_265 (by decide) (fun hc => ?_) (fun hc => ?_)
    · have h := pu_t hc h
      refine lv_iconst (v := (-1)) hx hb d_Mod_numbers_286 (by decide) ?_
      cases h
      refine W.widen (k := 0) (n := 0) (Nat.le_of_ble_eq_true rfl) (Nat.le_of_ble_eq_true rfl) ?_
      exact RT 287 ls H locs _ d_Mod_numbers_287 (Or.inr (Or.inl ⟨rfl, _, rfl⟩)) rfl (hP.sub [1, 2, 0] rfl) (hD.sub [1, 2, 0] (by decide) rfl) hS
    · have h := pu_f hc h
      refine lv_iload hx hb d_Mod_numbers_268 (lv_at hl 1 rfl) ?_
      refine lv_if_eq (tgt := 286) hx hb d_Mod_numbers_270 (by decide) (fun hc => ?_) (fun hc => ?_)
      · have h := pu_t hc h
        refine lv_iconst (v := (-1)) hx hb d_Mod_numbers_286 (by decide) ?_
        cases h
        refine W.widen (k := 0) (n := 0) (Nat.le_of_ble_eq_true rfl) (Nat.le_of_ble_eq_true rfl) ?_
        exact RT 287 ls H locs _ d_Mod_numbers_287 (Or.inr (Or.inl ⟨rfl, _, rfl⟩)) rfl (hP.sub [1, 2, 0] rfl) (hD.sub [1, 2, 0] (by decide) rfl) hS
      · have h := pu_f hc h
        refine lv_iload hx hb d_Mod_numbers_273 (lv_at hl 2 rfl) ?_
        refine lv_iconst (v := 2) hx hb d_Mod_numbers_275 (by decide) ?_
        refine lv_icmp_ne (tgt := 286) hx hb d_Mod_numbers_276 (by decide) (fun hc => ?_) (fun hc => ?_)
        · have h := pu_f hc h
          refine lv_iconst (v := (-1)) hx hb d_Mod_numbers_286 (by decide) ?_
          cases h
          refine W.widen (k := 0) (n := 0) (Nat.le_of_ble_eq_true rfl) (Nat.le_of_ble_eq_true rfl) ?_
          exact RT 287 ls H locs _ d_Mod_numbers_287 (Or.inr (Or.inl ⟨rfl, _, rfl⟩)) rfl (hP.sub [1, 2, 0] rfl) (hD.sub [1, 2, 0] (by decide) rfl) hS
        · have h := pu_t hc h
          refine lv_iload hx hb d_Mod_numbers_279 (lv_at hl 8 rfl) ?_
          refine lv_iconst (v := 1) hx hb d_Mod_numbers_281 (by decide) ?_
          refine lv_isub hx hb d_Mod_numbers_282 ?_
          refine lv_goto (tgt := 287) hx hb d_Mod_numbers_283 (by decide) ?_
          cases h
          refine W.widen (k := 0) (n := 0) (Nat.le_of_ble_eq_true rfl) (Nat.le_of_ble_eq_true rfl) ?_
          exact RT 287 ls H locs _ d_Mod_numbers_287 (Or.inr (Or.inl ⟨rfl, _, rfl⟩)) rfl (hP.sub [1, 2, 0] rfl) (hD.sub [1, 2, 0] (by decide) rfl) hS
  have L_2 : ∀ (n : Nat) (x4_3 : Int32) (x5_4 : Int32) (x6_5 : Int32) (x7_6 : Int32) (x8_7 : Int32) (x9_8 : Int32) (x10_9 : Int32) (x11_10 : Int32) (x12_11 : Int32) (H : Heap) (locs : List Loc) (ls : Array Slot), pu_it (p_Mod_numbers_L2 o_thrown o_width o_height o_repeats o_wide o_floor o_across o_down o_sum o_many o_above o_below o_marked o_spots o_days o_firsts_n o_firsts_f o_changes_n o_changes_f v1) n (x4_3, x5_4, x6_5, x7_6, x8_7, x9_8, x10_9, x11_10, x12_11) = some e_2 → lv_has ls 13 [(12, .int x12_11), (11, .int x11_10), (10, .int x10_9), (9, .int x9_8), (8, .int x8_7), (7, .int x7_6), (6, .int x6_5), (5, .int x5_4), (4, .int x4_3), (3, .int v1), (0, .ref q_o), (1, .int a1), (2, .int a2)] → va_P (dC, dI) vwCl [(q_o_changes, .inl (cI, o_changes_n, .inl o_changes_f)), (q_o, .inr (7, [.int o_thrown, .int o_width, .int o_height, .ref q_o_former, .ref q_o_later, .ref q_o_charts, .ref q_o_lows, .ref q_o_highs, .int o_repeats, .int o_wide, .int o_floor, .int o_across, .int o_down, .long o_sum, .long o_many, .long o_above, .long o_below, .ref q_o_firsts, .ref q_o_changes, .int o_marked, .int o_spots, .int o_days, .ref q_o_dates, .ref q_o_kept])), (q_o_firsts, .inl (cI, o_firsts_n, .inl o_firsts_f))] H → va_D A [(q_o_changes, .inl (cI, o_changes_n, .inl o_changes_f)), (q_o, .inr (7, [.int o_thrown, .int o_width, .int o_height, .ref q_o_former, .ref q_o_later, .ref q_o_charts, .ref q_o_lows, .ref q_o_highs, .int o_repeats, .int o_wide, .int o_floor, .int o_across, .int o_down, .long o_sum, .long o_many, .long o_above, .long o_below, .ref q_o_firsts, .ref q_o_changes, .int o_marked, .int o_spots, .int o_days, .ref q_o_dates, .ref q_o_kept])), (q_o_firsts, .inl (cI, o_firsts_n, .inl o_firsts_f))] → va_S A s.heap H locs → W p l e rm_Mod_numbers s m args below meth c H locs 0 0 Q (F0 m 35 ls []) := by
    intro n
    induction n with
    | zero => intro x4_3 x5_4 x6_5 x7_6 x8_7 x9_8 x10_9 x11_10 x12_11 H locs ls hn; exact (pu_it_0 hn).elim
    | succ n ih =>
      intro x4_3 x5_4 x6_5 x7_6 x8_7 x9_8 x10_9 x11_10 x12_11 H locs ls hn hl hP hD hS
      obtain ⟨r_2, h, hr_2⟩ := pu_it_succ hn
      unfold p_Mod_numbers_L2 at h
      try dsimp only at h
      refine lv_iload hx hb d_Mod_numbers_35 (lv_at hl 0 rfl) ?_
      refine lv_sipush (v := 576) hx hb d_Mod_numbers_37 (by decide) ?_
      refine lv_icmp_ge (tgt := 206) hx hb d_Mod_numbers_40 (by decide) (fun hc => ?_) (fun hc => ?_)
      · have h := pu_t hc h
        cases h
        exact K_2 x4_3 x5_4 x6_5 x7_6 x8_7 x9_8 x10_9 x11_10 x12_11 H locs ls hr_2.symm (lv_sub hl [0, 1, 2, 3, 4, 5, 6, 7, 8, 9, 10, 11, 12] rfl) (hP.sub [0, 1, 2] rfl) (hD.sub [0, 1, 2] (by decide) rfl) hS
      · have h := pu_f hc h
        refine lv_aload_n hx hb d_Mod_numbers_43 rfl (lv_at hl 10 rfl) ?_
        refine va_get (D := (dC, dI)) (ci := 7) (v := .ref q_o_firsts) (C := R_Mod) (T := F_Mod) (N := 24) hx hb hts i_Mod hown hK hP 1 rfl rfl 17 (by decide) (hts _ k_625) (fun _ h9 => h9) rfl d_Mod_numbers_44 ?_
        refine lv_iload hx hb d_Mod_numbers_47 (lv_at hl 0 rfl) ?_
        obtain ⟨hg, h⟩ := pu_g h
        refine va_iald hx hb hK hP 2 0 rfl rfl hg d_Mod_numbers_49 ?_
        refine lv_iload_n hx hb d_Mod_numbers_50 rfl (lv_at hl 9 rfl) ?_
        refine lv_icmp_ne (tgt := 200) hx hb d_Mod_numbers_51 (by decide) (fun hc => ?_) (fun hc => ?_)
        · have h := pu_f hc h
          refine lv_iinc (v := (x12_11 + 1)) (lv' := [(12, .int (x12_11 + 1)), (11, .int x11_10), (10, .int x10_9), (9, .int x9_8), (8, .int x8_7), (7, .int x7_6), (6, .int x6_5), (5, .int x5_4), (4, .int x4_3), (3, .int v1), (0, .ref q_o), (1, .int a1), (2, .int a2)]) hx hb d_Mod_numbers_200 hl (k := 0) rfl rfl (by decide) rfl (fun ls hl => ?_)
          refine lv_goto (tgt := 35) hx hb d_Mod_numbers_203 (by decide) ?_
          cases h
          exact ih x4_3 x5_4 x6_5 x7_6 x8_7 x9_8 x10_9 x11_10 (x12_11 + 1) H locs ls hr_2 (lv_sub hl [0, 1, 2, 3, 4, 5, 6, 7, 8, 9, 10, 11, 12] rfl) (hP.sub [0, 1, 2] rfl) (hD.sub [0, 1, 2] (by decide) rfl) hS
        · have h := pu_t hc h
          refine lv_iinc (v := (x4_3 + 1)) (lv' := [(4, .int (x4_3 + 1)), (12, .int x12_11), (11, .int x11_10), (10, .int x10_9), (9, .int x9_8), (8, .int x8_7), (7, .int x7_6), (6, .int x6_5), (5, .int x5_4), (3, .int v1), (0, .ref q_o), (1, .int a1), (2, .int a2)]) hx hb d_Mod_numbers_54 hl (k := 8) rfl rfl (by decide) rfl (fun ls hl => ?_)
          refine lv_iload hx hb d_Mod_numbers_57 (lv_at hl 8 rfl) ?_
          refine lv_aload_n hx hb d_Mod_numbers_59 rfl (lv_at hl 10 rfl) ?_
          refine va_get (D := (dC, dI)) (ci := 7) (v := .ref q_o_changes) (C := R_Mod) (T := F_Mod) (N := 24) hx hb hts i_Mod hown hK hP 1 rfl rfl 18 (by decide) (hts _ k_626) (fun _ h9 => h9) rfl d_Mod_numbers_60 ?_
          refine lv_iload hx hb d_Mod_numbers_63 (lv_at hl 1 rfl) ?_
          obtain ⟨hg, h⟩ := pu_g h
          refine va_iald hx hb hK hP 0 0 rfl rfl hg d_Mod_numbers_65 ?_
          refine lv_iadd hx hb d_Mod_numbers_66 ?_
          refine lv_istore (lv' := [(5, .int (x5_4 + (o_changes_f x12_11.toNatClampNeg))), (4, .int (x4_3 + 1)), (12, .int x12_11), (11, .int x11_10), (10, .int x10_9), (9, .int x9_8), (8, .int x8_7), (7, .int x7_6), (6, .int x6_5), (3, .int v1), (0, .ref q_o), (1, .int a1), (2, .int a2)]) hx hb d_Mod_numbers_67 hl (by decide) rfl (fun ls hl => ?_)
          refine lv_iload hx hb d_Mod_numbers_69 (lv_at hl 2 rfl) ?_
          refine lv_bipush (v := 24) hx hb d_Mod_numbers_71 (by decide) ?_
          obtain ⟨hg, h⟩ := pu_g h
          refine lv_irem hx hb d_Mod_numbers_73 hg ?_
          refine lv_iload hx hb d_Mod_numbers_74 (lv_at hl 8 rfl) ?_
          obtain ⟨j_12, hj_12, hx_12⟩ := pu_bd h
          have J_12 : ∀ (j12_13 : Int32) (H : Heap) (locs : List Loc) (ls : Array Slot), j_12 = j12_13 → lv_has ls 13 [(5, .int (x5_4 + (o_changes_f x12_11.toNatClampNeg))), (4, .int (x4_3 + 1)), (12, .int x12_11), (11, .int x11_10), (10, .int x10_9), (9, .int x9_8), (8, .int x8_7), (7, .int x7_6), (6, .int x6_5), (3, .int v1), (0, .ref q_o), (1, .int a1), (2, .int a2)] → va_P (dC, dI) vwCl [(q_o_changes, .inl (cI, o_changes_n, .inl o_changes_f)), (q_o, .inr (7, [.int o_thrown, .int o_width, .int o_height, .ref q_o_former, .ref q_o_later, .ref q_o_charts, .ref q_o_lows, .ref q_o_highs, .int o_repeats, .int o_wide, .int o_floor, .int o_across, .int o_down, .long o_sum, .long o_many, .long o_above, .long o_below, .ref q_o_firsts, .ref q_o_changes, .int o_marked, .int o_spots, .int o_days, .ref q_o_dates, .ref q_o_kept])), (q_o_firsts, .inl (cI, o_firsts_n, .inl o_firsts_f))] H → va_D A [(q_o_changes, .inl (cI, o_changes_n, .inl o_changes_f)), (q_o, .inr (7, [.int o_thrown, .int o_width, .int o_height, .ref q_o_former, .ref q_o_later, .ref q_o_charts, .ref q_o_lows, .ref q_o_highs, .int o_repeats, .int o_wide, .int o_floor, .int o_across, .int o_down, .long o_sum, .long o_many, .long o_above, .long o_below, .ref q_o_firsts, .ref q_o_changes, .int o_marked, .int o_spots, .int o_days, .ref q_o_dates, .ref q_o_kept])), (q_o_firsts, .inl (cI, o_firsts_n, .inl o_firsts_f))] → va_S A s.heap H locs → W p l e rm_Mod_numbers s m args below meth c H locs 0 0 Q (F0 m 89 ls [.int j12_13]) := by
            intro j12_13 H locs ls he hl hP hD hS
            have h := hx_12
            rw [he] at h
            try dsimp only at h
            refine lv_istore (lv' := [(6, .int j12_13), (5, .int (x5_4 + (o_changes_f x12_11.toNatClampNeg))), (4, .int (x4_3 + 1)), (12, .int x12_11), (11, .int x11_10), (10, .int x10_9), (9, .int x9_8), (8, .int x8_7), (7, .int x7_6), (3, .int v1), (0, .ref q_o), (1, .int a1), (2, .int a2)]) hx hb d_Mod_numbers_89 hl (by decide) rfl (fun ls hl => ?_)
            refine lv_iload hx hb d_Mod_numbers_91 (lv_at hl 3 rfl) ?_
            refine lv_bipush (v := 24) hx hb d_Mod_numbers_93 (by decide) ?_
            obtain ⟨hg, h⟩ := pu_g h
            refine lv_idiv hx hb d_Mod_numbers_95 hg ?_
            refine lv_iload hx hb d_Mod_numbers_96 (lv_at hl 8 rfl) ?_
            obtain ⟨j_14, hj_14, hx_14⟩ := pu_bd h
            have J_14 : ∀ (j14_15 : Int32) (H : Heap) (locs : List Loc) (ls : Array Slot), j_14 = j14_15 → lv_has ls 13 [(6, .int j12_13), (5, .int (x5_4 + (o_changes_f x12_11.toNatClampNeg))), (4, .int (x4_3 + 1)), (12, .int x12_11), (11, .int x11_10), (10, .int x10_9), (9, .int x9_8), (8, .int x8_7), (7, .int x7_6), (3, .int v1), (0, .ref q_o), (1, .int a1), (2, .int a2)] → va_P (dC, dI) vwCl [(q_o_changes, .inl (cI, o_changes_n, .inl o_changes_f)), (q_o, .inr (7, [.int o_thrown, .int o_width, .int o_height, .ref q_o_former, .ref q_o_later, .ref q_o_charts, .ref q_o_lows, .ref q_o_highs, .int o_repeats, .int o_wide, .int o_floor, .int o_across, .int o_down, .long o_sum, .long o_many, .long o_above, .long o_below, .ref q_o_firsts, .ref q_o_changes, .int o_marked, .int o_spots, .int o_days, .ref q_o_dates, .ref q_o_kept])), (q_o_firsts, .inl (cI, o_firsts_n, .inl o_firsts_f))] H → va_D A [(q_o_changes, .inl (cI, o_changes_n, .inl o_changes_f)), (q_o, .inr (7, [.int o_thrown, .int o_width, .int o_height, .ref q_o_former, .ref q_o_later, .ref q_o_charts, .ref q_o_lows, .ref q_o_highs, .int o_repeats, .int o_wide, .int o_floor, .int o_across, .int o_down, .long o_sum, .long o_many, .long o_above, .long o_below, .ref q_o_firsts, .ref q_o_changes, .int o_marked, .int o_spots, .int o_days, .ref q_o_dates, .ref q_o_kept])), (q_o_firsts, .inl (cI, o_firsts_n, .inl o_firsts_f))] → va_S A s.heap H locs → W p l e rm_Mod_numbers s m args below meth c H locs 0 0 Q (F0 m 111 ls [.int j14_15]) := by
              intro j14_15 H locs ls he hl hP hD hS
              have h := hx_14
              rw [he] at h
              try dsimp only at h
              refine lv_istore (lv' := [(7, .int j14_15), (6, .int j12_13), (5, .int (x5_4 + (o_changes_f x12_11.toNatClampNeg))), (4, .int (x4_3 + 1)), (12, .int x12_11), (11, .int x11_10), (10, .int x10_9), (9, .int x9_8), (8, .int x8_7), (3, .int v1), (0, .ref q_o), (1, .int a1), (2, .int a2)]) hx hb d_Mod_numbers_111 hl (by decide) rfl (fun ls hl => ?_)
              refine lv_iload hx hb d_Mod_numbers_113 (lv_at hl 4 rfl) ?_
              refine lv_bipush (v := 24) hx hb d_Mod_numbers_115 (by decide) ?_
              obtain ⟨hg, h⟩ := pu_g h
              refine lv_irem hx hb d_Mod_numbers_117 hg ?_
              refine lv_iload hx hb d_Mod_numbers_118 (lv_at hl 8 rfl) ?_
              obtain ⟨j_16, hj_16, hx_16⟩ := pu_bd h
              have J_16 : ∀ (j16_17 : Int32) (H : Heap) (locs : List Loc) (ls : Array Slot), j_16 = j16_17 → lv_has ls 13 [(7, .int j14_15), (6, .int j12_13), (5, .int (x5_4 + (o_changes_f x12_11.toNatClampNeg))), (4, .int (x4_3 + 1)), (12, .int x12_11), (11, .int x11_10), (10, .int x10_9), (9, .int x9_8), (8, .int x8_7), (3, .int v1), (0, .ref q_o), (1, .int a1), (2, .int a2)] → va_P (dC, dI) vwCl [(q_o_changes, .inl (cI, o_changes_n, .inl o_changes_f)), (q_o, .inr (7, [.int o_thrown, .int o_width, .int o_height, .ref q_o_former, .ref q_o_later, .ref q_o_charts, .ref q_o_lows, .ref q_o_highs, .int o_repeats, .int o_wide, .int o_floor, .int o_across, .int o_down, .long o_sum, .long o_many, .long o_above, .long o_below, .ref q_o_firsts, .ref q_o_changes, .int o_marked, .int o_spots, .int o_days, .ref q_o_dates, .ref q_o_kept])), (q_o_firsts, .inl (cI, o_firsts_n, .inl o_firsts_f))] H → va_D A [(q_o_changes, .inl (cI, o_changes_n, .inl o_changes_f)), (q_o, .inr (7, [.int o_thrown, .int o_width, .int o_height, .ref q_o_former, .ref q_o_later, .ref q_o_charts, .ref q_o_lows, .ref q_o_highs, .int o_repeats, .int o_wide, .int o_floor, .int o_across, .int o_down, .long o_sum, .long o_many, .long o_above, .long o_below, .ref q_o_firsts, .ref q_o_changes, .int o_marked, .int o_spots, .int o_days, .ref q_o_dates, .ref q_o_kept])), (q_o_firsts, .inl (cI, o_firsts_n, .inl o_firsts_f))] → va_S A s.heap H locs → W p l e rm_Mod_numbers s m args below meth c H locs 0 0 Q (F0 m 133 ls [.int j16_17]) := by
                intro j16_17 H locs ls he hl hP hD hS
                have h := hx_16
                rw [he] at h
                try dsimp only at h
                refine lv_istore (lv' := [(8, .int j16_17), (7, .int j14_15), (6, .int j12_13), (5, .int (x5_4 + (o_changes_f x12_11.toNatClampNeg))), (4, .int (x4_3 + 1)), (12, .int x12_11), (11, .int x11_10), (10, .int x10_9), (9, .int x9_8), (3, .int v1), (0, .ref q_o), (1, .int a1), (2, .int a2)]) hx hb d_Mod_numbers_133 hl (by decide) rfl (fun ls hl => ?_)
                refine lv_iload hx hb d_Mod_numbers_135 (lv_at hl 5 rfl) ?_
                refine lv_bipush (v := 24) hx hb d_Mod_numbers_137 (by decide) ?_
                obtain ⟨hg, h⟩ := pu_g h
                refine lv_idiv hx hb d_Mod_numbers_139 hg ?_
                refine lv_iload hx hb d_Mod_numbers_140 (lv_at hl 8 rfl) ?_
                obtain ⟨j_18, hj_18, hx_18⟩ := pu_bd h
                have J_18 : ∀ (j18_19 : Int32) (H : Heap) (locs : List Loc) (ls : Array Slot), j_18 = j18_19 → lv_has ls 13 [(8, .int j16_17), (7, .int j14_15), (6, .int j12_13), (5, .int (x5_4 + (o_changes_f x12_11.toNatClampNeg))), (4, .int (x4_3 + 1)), (12, .int x12_11), (11, .int x11_10), (10, .int x10_9), (9, .int x9_8), (3, .int v1), (0, .ref q_o), (1, .int a1), (2, .int a2)] → va_P (dC, dI) vwCl [(q_o_changes, .inl (cI, o_changes_n, .inl o_changes_f)), (q_o, .inr (7, [.int o_thrown, .int o_width, .int o_height, .ref q_o_former, .ref q_o_later, .ref q_o_charts, .ref q_o_lows, .ref q_o_highs, .int o_repeats, .int o_wide, .int o_floor, .int o_across, .int o_down, .long o_sum, .long o_many, .long o_above, .long o_below, .ref q_o_firsts, .ref q_o_changes, .int o_marked, .int o_spots, .int o_days, .ref q_o_dates, .ref q_o_kept])), (q_o_firsts, .inl (cI, o_firsts_n, .inl o_firsts_f))] H → va_D A [(q_o_changes, .inl (cI, o_changes_n, .inl o_changes_f)), (q_o, .inr (7, [.int o_thrown, .int o_width, .int o_height, .ref q_o_former, .ref q_o_later, .ref q_o_charts, .ref q_o_lows, .ref q_o_highs, .int o_repeats, .int o_wide, .int o_floor, .int o_across, .int o_down, .long o_sum, .long o_many, .long o_above, .long o_below, .ref q_o_firsts, .ref q_o_changes, .int o_marked, .int o_spots, .int o_days, .ref q_o_dates, .ref q_o_kept])), (q_o_firsts, .inl (cI, o_firsts_n, .inl o_firsts_f))] → va_S A s.heap H locs → W p l e rm_Mod_numbers s m args below meth c H locs 0 0 Q (F0 m 155 ls [.int j18_19]) := by
                  intro j18_19 H locs ls he hl hP hD hS
                  have h := hx_18
                  rw [he] at h
                  try dsimp only at h
                  refine lv_istore (lv' := [(9, .int j18_19), (8, .int j16_17), (7, .int j14_15), (6, .int j12_13), (5, .int (x5_4 + (o_changes_f x12_11.toNatClampNeg))), (4, .int (x4_3 + 1)), (12, .int x12_11), (11, .int x11_10), (10, .int x10_9), (3, .int v1), (0, .ref q_o), (1, .int a1), (2, .int a2)]) hx hb d_Mod_numbers_155 hl (by decide) rfl (fun ls hl => ?_)
                  refine lv_iload hx hb d_Mod_numbers_157 (lv_at hl 7 rfl) ?_
                  obtain ⟨j_20, hj_20, hx_20⟩ := pu_bd h
                  have J_20 : ∀ (j20_22 : Int32) (H : Heap) (locs : List Loc) (ls : Array Slot), j_20 = j20_22 → lv_has ls 13 [(9, .int j18_19), (8, .int j16_17), (7, .int j14_15), (6, .int j12_13), (5, .int (x5_4 + (o_changes_f x12_11.toNatClampNeg))), (4, .int (x4_3 + 1)), (12, .int x12_11), (11, .int x11_10), (10, .int x10_9), (3, .int v1), (0, .ref q_o), (1, .int a1), (2, .int a2)] → va_P (dC, dI) vwCl [(q_o_changes, .inl (cI, o_changes_n, .inl o_changes_f)), (q_o, .inr (7, [.int o_thrown, .int o_width, .int o_height, .ref q_o_former, .ref q_o_later, .ref q_o_charts, .ref q_o_lows, .ref q_o_highs, .int o_repeats, .int o_wide, .int o_floor, .int o_across, .int o_down, .long o_sum, .long o_many, .long o_above, .long o_below, .ref q_o_firsts, .ref q_o_changes, .int o_marked, .int o_spots, .int o_days, .ref q_o_dates, .ref q_o_kept])), (q_o_firsts, .inl (cI, o_firsts_n, .inl o_firsts_f))] H → va_D A [(q_o_changes, .inl (cI, o_changes_n, .inl o_changes_f)), (q_o, .inr (7, [.int o_thrown, .int o_width, .int o_height, .ref q_o_former, .ref q_o_later, .ref q_o_charts, .ref q_o_lows, .ref q_o_highs, .int o_repeats, .int o_wide, .int o_floor, .int o_across, .int o_down, .long o_sum, .long o_many, .long o_above, .long o_below, .ref q_o_firsts, .ref q_o_changes, .int o_marked, .int o_spots, .int o_days, .ref q_o_dates, .ref q_o_kept])), (q_o_firsts, .inl (cI, o_firsts_n, .inl o_firsts_f))] → va_S A s.heap H locs → W p l e rm_Mod_numbers s m args below meth c H locs 0 0 Q (F0 m 177 ls [.int j20_22]) := by
                    intro j20_22 H locs ls he hl hP hD hS
                    have h := hx_20
                    rw [he] at h
                    try dsimp only at h
                    refine lv_istore (lv' := [(11, .int j20_22), (9, .int j18_19), (8, .int j16_17), (7, .int j14_15), (6, .int j12_13), (5, .int (x5_4 + (o_changes_f x12_11.toNatClampNeg))), (4, .int (x4_3 + 1)), (12, .int x12_11), (10, .int x10_9), (3, .int v1), (0, .ref q_o), (1, .int a1), (2, .int a2)]) hx hb d_Mod_numbers_177 hl (by decide) rfl (fun ls hl => ?_)
                    refine lv_aload_n hx hb d_Mod_numbers_179 rfl (lv_at hl 10 rfl) ?_
                    refine lv_iload hx hb d_Mod_numbers_180 (lv_at hl 7 rfl) ?_
                    obtain ⟨v23, hu23, h⟩ := pu_bd h
                    refine cc_V (As := [.int x12_11]) (rest := []) ⟨hx, hb, hml, hown, hts⟩ (c_Mod_near l dC dI cI cJ cZ q_o q_o_former q_o_later q_o_charts q_o_lows q_o_highs q_o_firsts q_o_changes q_o_dates q_o_kept x12_11 o_thrown o_width o_height o_repeats o_wide o_floor o_across o_down o_sum o_many o_above o_below o_marked o_spots o_days o_firsts_n o_firsts_f v23 hu23) (cwV 1 hts (gV k_793 k_795 kp_28 k_9 k_796 rfl) rfl rfl rfl hdV_Mod_near ⟨Nat.le_of_ble_eq_true rfl, Nat.le_of_ble_eq_true rfl⟩) hK hN hP hD hS hA [1, 2] [0] (w0 := [(q_o, .inr (7, [.int o_thrown, .int o_width, .int o_height, .ref q_o_former, .ref q_o_later, .ref q_o_charts, .ref q_o_lows, .ref q_o_highs, .int o_repeats, .int o_wide, .int o_floor, .int o_across, .int o_down, .long o_sum, .long o_many, .long o_above, .long o_below, .ref q_o_firsts, .ref q_o_changes, .int o_marked, .int o_spots, .int o_days, .ref q_o_dates, .ref q_o_kept])), (q_o_firsts, .inl (cI, o_firsts_n, .inl o_firsts_f))]) (wr := [(q_o_changes, .inl (cI, o_changes_n, .inl o_changes_f))]) rfl rfl (by decide) (by decide) (by decide) 7 rfl rfl rfl hl.1 rfl (Nat.le_of_ble_eq_true rfl) d_Mod_numbers_182 ⟨Nat.le_of_ble_eq_true rfl, Nat.le_of_ble_eq_true rfl⟩ (fun w1 H locs hw1 hP hD hS => ?_)
                    subst hw1
                    have hP : va_P (dC, dI) vwCl [(q_o_changes, .inl (cI, o_changes_n, .inl o_changes_f)), (q_o, .inr (7, [.int o_thrown, .int o_width, .int o_height, .ref q_o_former, .ref q_o_later, .ref q_o_charts, .ref q_o_lows, .ref q_o_highs, .int o_repeats, .int o_wide, .int o_floor, .int o_across, .int o_down, .long o_sum, .long o_many, .long o_above, .long o_below, .ref q_o_firsts, .ref q_o_changes, .int o_marked, .int o_spots, .int o_days, .ref q_o_dates, .ref q_o_kept])), (q_o_firsts, .inl (cI, o_firsts_n, .inl o_firsts_f))] H := hP
                    have hD : va_D A [(q_o_changes, .inl (cI, o_changes_n, .inl o_changes_f)), (q_o, .inr (7, [.int o_thrown, .int o_width, .int o_height, .ref q_o_former, .ref q_o_later, .ref q_o_charts, .ref q_o_lows, .ref q_o_highs, .int o_repeats, .int o_wide, .int o_floor, .int o_across, .int o_down, .long o_sum, .long o_many, .long o_above, .long o_below, .ref q_o_firsts, .ref q_o_changes, .int o_marked, .int o_spots, .int o_days, .ref q_o_dates, .ref q_o_kept])), (q_o_firsts, .inl (cI, o_firsts_n, .inl o_firsts_f))] := hD
                    refine lv_iconst (v := 1) hx hb d_Mod_numbers_185 (by decide) ?_
                    refine lv_icmp_ne (tgt := 196) hx hb d_Mod_numbers_186 (by decide) (fun hc => ?_) (fun hc => ?_)
                    · have h := pu_f hc h
                      refine lv_iload hx hb d_Mod_numbers_196 (lv_at hl 8 rfl) ?_
                      refine lv_istore (lv' := [(10, .int x10_9), (11, .int j20_22), (9, .int j18_19), (8, .int j16_17), (7, .int j14_15), (6, .int j12_13), (5, .int (x5_4 + (o_changes_f x12_11.toNatClampNeg))), (4, .int (x4_3 + 1)), (12, .int x12_11), (3, .int v1), (0, .ref q_o), (1, .int a1), (2, .int a2)]) hx hb d_Mod_numbers_198 hl (by decide) rfl (fun ls hl => ?_)
                      refine lv_iinc (v := (x12_11 + 1)) (lv' := [(12, .int (x12_11 + 1)), (10, .int x10_9), (11, .int j20_22), (9, .int j18_19), (8, .int j16_17), (7, .int j14_15), (6, .int j12_13), (5, .int (x5_4 + (o_changes_f x12_11.toNatClampNeg))), (4, .int (x4_3 + 1)), (3, .int v1), (0, .ref q_o), (1, .int a1), (2, .int a2)]) hx hb d_Mod_numbers_200 hl (k := 8) rfl rfl (by decide) rfl (fun ls hl => ?_)
                      refine lv_goto (tgt := 35) hx hb d_Mod_numbers_203 (by decide) ?_
                      cases h
                      exact ih (x4_3 + 1) (x5_4 + (o_changes_f x12_11.toNatClampNeg)) j12_13 j14_15 j16_17 j18_19 x10_9 j20_22 (x12_11 + 1) H locs ls hr_2 (lv_sub hl [0, 2, 1, 3, 4, 5, 6, 7, 8, 9, 10, 11, 12] rfl) (hP.sub [0, 1, 2] rfl) (hD.sub [0, 1, 2] (by decide) rfl) hS
                    · have h := pu_t hc h
                      refine lv_iload hx hb d_Mod_numbers_189 (lv_at hl 8 rfl) ?_
                      refine lv_iconst (v := 1) hx hb d_Mod_numbers_191 (by decide) ?_
                      refine lv_iadd hx hb d_Mod_numbers_192 ?_
                      refine lv_goto (tgt := 198) hx hb d_Mod_numbers_193 (by decide) ?_
                      refine lv_istore (lv' := [(10, .int (x10_9 + 1)), (11, .int j20_22), (9, .int j18_19), (8, .int j16_17), (7, .int j14_15), (6, .int j12_13), (5, .int (x5_4 + (o_changes_f x12_11.toNatClampNeg))), (4, .int (x4_3 + 1)), (12, .int x12_11), (3, .int v1), (0, .ref q_o), (1, .int a1), (2, .int a2)]) hx hb d_Mod_numbers_198 hl (by decide) rfl (fun ls hl => ?_)
                      refine lv_iinc (v := (x12_11 + 1)) (lv' := [(12, .int (x12_11 + 1)), (10, .int (x10_9 + 1)), (11, .int j20_22), (9, .int j18_19), (8, .int j16_17), (7, .int j14_15), (6, .int j12_13), (5, .int (x5_4 + (o_changes_f x12_11.toNatClampNeg))), (4, .int (x4_3 + 1)), (3, .int v1), (0, .ref q_o), (1, .int a1), (2, .int a2)]) hx hb d_Mod_numbers_200 hl (k := 8) rfl rfl (by decide) rfl (fun ls hl => ?_)
                      refine lv_goto (tgt := 35) hx hb d_Mod_numbers_203 (by decide) ?_
                      cases h
                      exact ih (x4_3 + 1) (x5_4 + (o_changes_f x12_11.toNatClampNeg)) j12_13 j14_15 j16_17 j18_19 (x10_9 + 1) j20_22 (x12_11 + 1) H locs ls hr_2 (lv_sub hl [0, 2, 1, 3, 4, 5, 6, 7, 8, 9, 10, 11, 12] rfl) (hP.sub [0, 1, 2] rfl) (hD.sub [0, 1, 2] (by decide) rfl) hS
                  have h := hj_20
                  refine lv_if_eq (tgt := 176) hx hb d_Mod_numbers_159 (by decide) (fun hc => ?_) (fun hc => ?_)
                  · have h := pu_t hc h
                    refine lv_iconst (v := 0) hx hb d_Mod_numbers_176 (by decide) ?_
                    exact J_20 0 H locs ls (Option.some.inj h).symm (lv_sub hl [0, 1, 2, 3, 4, 5, 6, 7, 8, 9, 10, 11, 12] rfl) (hP.sub [0, 1, 2] rfl) (hD.sub [0, 1, 2] (by decide) rfl) hS
                  · have h := pu_f hc h
                    refine lv_aload_n hx hb d_Mod_numbers_162 rfl (lv_at hl 10 rfl) ?_
                    refine lv_iload hx hb d_Mod_numbers_163 (lv_at hl 6 rfl) ?_
                    obtain ⟨v21, hu21, h⟩ := pu_bd h
                    refine cc_V (As := [.int x12_11]) (rest := []) ⟨hx, hb, hml, hown, hts⟩ (c_Mod_near l dC dI cI cJ cZ q_o q_o_former q_o_later q_o_charts q_o_lows q_o_highs q_o_firsts q_o_changes q_o_dates q_o_kept x12_11 o_thrown o_width o_height o_repeats o_wide o_floor o_across o_down o_sum o_many o_above o_below o_marked o_spots o_days o_firsts_n o_firsts_f v21 hu21) (cwV 1 hts (gV k_793 k_795 kp_28 k_9 k_796 rfl) rfl rfl rfl hdV_Mod_near ⟨Nat.le_of_ble_eq_true rfl, Nat.le_of_ble_eq_true rfl⟩) hK hN hP hD hS hA [1, 2] [0] (w0 := [(q_o, .inr (7, [.int o_thrown, .int o_width, .int o_height, .ref q_o_former, .ref q_o_later, .ref q_o_charts, .ref q_o_lows, .ref q_o_highs, .int o_repeats, .int o_wide, .int o_floor, .int o_across, .int o_down, .long o_sum, .long o_many, .long o_above, .long o_below, .ref q_o_firsts, .ref q_o_changes, .int o_marked, .int o_spots, .int o_days, .ref q_o_dates, .ref q_o_kept])), (q_o_firsts, .inl (cI, o_firsts_n, .inl o_firsts_f))]) (wr := [(q_o_changes, .inl (cI, o_changes_n, .inl o_changes_f))]) rfl rfl (by decide) (by decide) (by decide) 7 rfl rfl rfl hl.1 rfl (Nat.le_of_ble_eq_true rfl) d_Mod_numbers_165 ⟨Nat.le_of_ble_eq_true rfl, Nat.le_of_ble_eq_true rfl⟩ (fun w1 H locs hw1 hP hD hS => ?_)
                    subst hw1
                    have hP : va_P (dC, dI) vwCl [(q_o_changes, .inl (cI, o_changes_n, .inl o_changes_f)), (q_o, .inr (7, [.int o_thrown, .int o_width, .int o_height, .ref q_o_former, .ref q_o_later, .ref q_o_charts, .ref q_o_lows, .ref q_o_highs, .int o_repeats, .int o_wide, .int o_floor, .int o_across, .int o_down, .long o_sum, .long o_many, .long o_above, .long o_below, .ref q_o_firsts, .ref q_o_changes, .int o_marked, .int o_spots, .int o_days, .ref q_o_dates, .ref q_o_kept])), (q_o_firsts, .inl (cI, o_firsts_n, .inl o_firsts_f))] H := hP
                    have hD : va_D A [(q_o_changes, .inl (cI, o_changes_n, .inl o_changes_f)), (q_o, .inr (7, [.int o_thrown, .int o_width, .int o_height, .ref q_o_former, .ref q_o_later, .ref q_o_charts, .ref q_o_lows, .ref q_o_highs, .int o_repeats, .int o_wide, .int o_floor, .int o_across, .int o_down, .long o_sum, .long o_many, .long o_above, .long o_below, .ref q_o_firsts, .ref q_o_changes, .int o_marked, .int o_spots, .int o_days, .ref q_o_dates, .ref q_o_kept])), (q_o_firsts, .inl (cI, o_firsts_n, .inl o_firsts_f))] := hD
                    refine lv_iconst (v := 2) hx hb d_Mod_numbers_168 (by decide) ?_
                    refine lv_icmp_gt (tgt := 176) hx hb d_Mod_numbers_169 (by decide) (fun hc => ?_) (fun hc => ?_)
                    · have h := pu_t hc h
                      refine lv_iconst (v := 0) hx hb d_Mod_numbers_176 (by decide) ?_
                      exact J_20 0 H locs ls (Option.some.inj h).symm (lv_sub hl [0, 1, 2, 3, 4, 5, 6, 7, 8, 9, 10, 11, 12] rfl) (hP.sub [0, 1, 2] rfl) (hD.sub [0, 1, 2] (by decide) rfl) hS
                    · have h := pu_f hc h
                      refine lv_iconst (v := 1) hx hb d_Mod_numbers_172 (by decide) ?_
                      refine lv_goto (tgt := 177) hx hb d_Mod_numbers_173 (by decide) ?_
                      exact J_20 1 H locs ls (Option.some.inj h).symm (lv_sub hl [0, 1, 2, 3, 4, 5, 6, 7, 8, 9, 10, 11, 12] rfl) (hP.sub [0, 1, 2] rfl) (hD.sub [0, 1, 2] (by decide) rfl) hS
                have h := hj_18
                refine lv_icmp_le (tgt := 153) hx hb d_Mod_numbers_142 (by decide) (fun hc => ?_) (fun hc => ?_)
                · have h := pu_t hc h
                  refine lv_iload hx hb d_Mod_numbers_153 (lv_at hl 8 rfl) ?_
                  exact J_18 x9_8 H locs ls (Option.some.inj h).symm (lv_sub hl [0, 1, 2, 3, 4, 5, 6, 7, 8, 9, 10, 11, 12] rfl) (hP.sub [0, 1, 2] rfl) (hD.sub [0, 1, 2] (by decide) rfl) hS
                · have h := pu_f hc h
                  refine lv_iload hx hb d_Mod_numbers_145 (lv_at hl 5 rfl) ?_
                  refine lv_bipush (v := 24) hx hb d_Mod_numbers_147 (by decide) ?_
                  obtain ⟨hg, h⟩ := pu_g h
                  refine lv_idiv hx hb d_Mod_numbers_149 hg ?_
                  refine lv_goto (tgt := 155) hx hb d_Mod_numbers_150 (by decide) ?_
                  exact J_18 (x12_11 / 24) H locs ls (Option.some.inj h).symm (lv_sub hl [0, 1, 2, 3, 4, 5, 6, 7, 8, 9, 10, 11, 12] rfl) (hP.sub [0, 1, 2] rfl) (hD.sub [0, 1, 2] (by decide) rfl) hS
              have h := hj_16
              refine lv_icmp_le (tgt := 131) hx hb d_Mod_numbers_120 (by decide) (fun hc => ?_) (fun hc => ?_)
              · have h := pu_t hc h
                refine lv_iload hx hb d_Mod_numbers_131 (lv_at hl 8 rfl) ?_
                exact J_16 x8_7 H locs ls (Option.some.inj h).symm (lv_sub hl [0, 1, 2, 3, 4, 5, 6, 7, 8, 9, 10, 11, 12] rfl) (hP.sub [0, 1, 2] rfl) (hD.sub [0, 1, 2] (by decide) rfl) hS
              · have h := pu_f hc h
                refine lv_iload hx hb d_Mod_numbers_123 (lv_at hl 4 rfl) ?_
                refine lv_bipush (v := 24) hx hb d_Mod_numbers_125 (by decide) ?_
                obtain ⟨hg, h⟩ := pu_g h
                refine lv_irem hx hb d_Mod_numbers_127 hg ?_
                refine lv_goto (tgt := 133) hx hb d_Mod_numbers_128 (by decide) ?_
                exact J_16 (x12_11 - x12_11 / 24 * 24) H locs ls (Option.some.inj h).symm (lv_sub hl [0, 1, 2, 3, 4, 5, 6, 7, 8, 9, 10, 11, 12] rfl) (hP.sub [0, 1, 2] rfl) (hD.sub [0, 1, 2] (by decide) rfl) hS
            have h := hj_14
            refine lv_icmp_ge (tgt := 109) hx hb d_Mod_numbers_98 (by decide) (fun hc => ?_) (fun hc => ?_)
            · have h := pu_t hc h
              refine lv_iload hx hb d_Mod_numbers_109 (lv_at hl 8 rfl) ?_
              exact J_14 x7_6 H locs ls (Option.some.inj h).symm (lv_sub hl [0, 1, 2, 3, 4, 5, 6, 7, 8, 9, 10, 11, 12] rfl) (hP.sub [0, 1, 2] rfl) (hD.sub [0, 1, 2] (by decide) rfl) hS
            · have h := pu_f hc h
              refine lv_iload hx hb d_Mod_numbers_101 (lv_at hl 3 rfl) ?_
              refine lv_bipush (v := 24) hx hb d_Mod_numbers_103 (by decide) ?_
              obtain ⟨hg, h⟩ := pu_g h
              refine lv_idiv hx hb d_Mod_numbers_105 hg ?_
              refine lv_goto (tgt := 111) hx hb d_Mod_numbers_106 (by decide) ?_
              exact J_14 (x12_11 / 24) H locs ls (Option.some.inj h).symm (lv_sub hl [0, 1, 2, 3, 4, 5, 6, 7, 8, 9, 10, 11, 12] rfl) (hP.sub [0, 1, 2] rfl) (hD.sub [0, 1, 2] (by decide) rfl) hS
          have h := hj_12
          refine lv_icmp_ge (tgt := 87) hx hb d_Mod_numbers_76 (by decide) (fun hc => ?_) (fun hc => ?_)
          · have h := pu_t hc h
            refine lv_iload hx hb d_Mod_numbers_87 (lv_at hl 8 rfl) ?_
            exact J_12 x6_5 H locs ls (Option.some.inj h).symm (lv_sub hl [0, 1, 2, 3, 4, 5, 6, 7, 8, 9, 10, 11, 12] rfl) (hP.sub [0, 1, 2] rfl) (hD.sub [0, 1, 2] (by decide) rfl) hS
          · have h := pu_f hc h
            refine lv_iload hx hb d_Mod_numbers_79 (lv_at hl 2 rfl) ?_
            refine lv_bipush (v := 24) hx hb d_Mod_numbers_81 (by decide) ?_
            obtain ⟨hg, h⟩ := pu_g h
            refine lv_irem hx hb d_Mod_numbers_83 hg ?_
            refine lv_goto (tgt := 89) hx hb d_Mod_numbers_84 (by decide) ?_
            exact J_12 (x12_11 - x12_11 / 24 * 24) H locs ls (Option.some.inj h).symm (lv_sub hl [0, 1, 2, 3, 4, 5, 6, 7, 8, 9, 10, 11, 12] rfl) (hP.sub [0, 1, 2] rfl) (hD.sub [0, 1, 2] (by decide) rfl) hS
  exact L_2 n_2 0 0 99 99 (-1) (-1) 0 1 0 H locs ls hn_2 hl hP hD hS

noncomputable def p_Mod_spot (a1 : Int32) (a2 : Int32) (o_thrown : Int32) (o_width : Int32) (o_height : Int32) (o_repeats : Int32) (o_wide : Int32) (o_floor : Int32) (o_across : Int32) (o_down : Int32) (o_sum : Int64) (o_many : Int64) (o_above : Int64) (o_below : Int64) (o_marked : Int32) (o_spots : Int32) (o_days : Int32) (o_firsts_n : Nat) (o_firsts_f : Nat → Int32) (o_changes_n : Nat) (o_changes_f : Nat → Int32) : Option (Int32 × Int32) :=
  (p_Mod_within a1 0 (o_spots - 1)).bind (fun (v1 : Int32) => ((if v1 = 0 then some 0 else (p_Mod_within a2 0 6).bind (fun (v3 : Int32) => (if v3 = 0 then some 0 else some 1)))).bind (fun (j2_4 : Int32) => (p_Mod_goes j2_4 1 1 o_thrown o_width o_height o_repeats o_wide o_floor o_across o_down o_sum o_many o_above o_below o_marked o_spots o_days).bind (fun ((v5, u5_0) : Int32 × Int32) => (if v5 = 0 then some (0, u5_0) else (p_Mod_numbers a1 a2 u5_0 o_width o_height o_repeats o_wide o_floor o_across o_down o_sum o_many o_above o_below o_marked o_spots o_days o_firsts_n o_firsts_f o_changes_n o_changes_f).bind (fun (v6 : Int32) => some (v6, u5_0))))))
set_option maxHeartbeats 4000000 in
set_option maxRecDepth 100000 in
theorem c_Mod_spot (l : Launch) (dC : Nat → ClassId) (dI : Nat → Nat → Nat) (cI cJ cZ : ClassId) (q_o q_o_former q_o_later q_o_charts q_o_lows q_o_highs q_o_firsts q_o_changes q_o_dates q_o_kept : Nat) (a1 : Int32) (a2 : Int32) (o_thrown : Int32) (o_width : Int32) (o_height : Int32) (o_repeats : Int32) (o_wide : Int32) (o_floor : Int32) (o_across : Int32) (o_down : Int32) (o_sum : Int64) (o_many : Int64) (o_above : Int64) (o_below : Int64) (o_marked : Int32) (o_spots : Int32) (o_days : Int32) (o_firsts_n : Nat) (o_firsts_f : Nat → Int32) (o_changes_n : Nat) (o_changes_f : Nat → Int32) (r0 : Int32) (r1 : Int32) (h : p_Mod_spot a1 a2 o_thrown o_width o_height o_repeats o_wide o_floor o_across o_down o_sum o_many o_above o_below o_marked o_spots o_days o_firsts_n o_firsts_f o_changes_n o_changes_f = some (r0, r1)) : ct l y_Mod_spot w_Mod_spot rm_Mod_spot (dC, dI) [(cI, .int), (cJ, .long), (cZ, .boolean)] [.ref q_o, .int a1, .int a2] [(q_o, .inr (7, [.int o_thrown, .int o_width, .int o_height, .ref q_o_former, .ref q_o_later, .ref q_o_charts, .ref q_o_lows, .ref q_o_highs, .int o_repeats, .int o_wide, .int o_floor, .int o_across, .int o_down, .long o_sum, .long o_many, .long o_above, .long o_below, .ref q_o_firsts, .ref q_o_changes, .int o_marked, .int o_spots, .int o_days, .ref q_o_dates, .ref q_o_kept])), (q_o_firsts, .inl (cI, o_firsts_n, .inl o_firsts_f)), (q_o_changes, .inl (cI, o_changes_n, .inl o_changes_f))] (fun w => w = [(q_o, .inr (7, [.int r1, .int o_width, .int o_height, .ref q_o_former, .ref q_o_later, .ref q_o_charts, .ref q_o_lows, .ref q_o_highs, .int o_repeats, .int o_wide, .int o_floor, .int o_across, .int o_down, .long o_sum, .long o_many, .long o_above, .long o_below, .ref q_o_firsts, .ref q_o_changes, .int o_marked, .int o_spots, .int o_days, .ref q_o_dates, .ref q_o_kept])), (q_o_firsts, .inl (cI, o_firsts_n, .inl o_firsts_f)), (q_o_changes, .inl (cI, o_changes_n, .inl o_changes_f))]) (some (.int r0)) := by
  refine ct_of (cc := b_Mod_spot) (maxL := 3) (ret := (some .int)) (lv := [(0, .ref q_o), (1, .int a1), (2, .int a2)]) (by decide) rfl rfl rfl ?_
  intro p e s m args below meth c A Q H locs hx hb hml hown hts hin hA hK hN hP hD hS RT ls hl
  unfold p_Mod_spot at h
  refine lv_aload_n hx hb d_Mod_spot_0 rfl (lv_at hl 0 rfl) ?_
  refine lv_iload_n hx hb d_Mod_spot_1 rfl (lv_at hl 1 rfl) ?_
  refine lv_iconst (v := 0) hx hb d_Mod_spot_2 (by decide) ?_
  refine lv_aload_n hx hb d_Mod_spot_3 rfl (lv_at hl 0 rfl) ?_
  refine va_get (D := (dC, dI)) (ci := 7) (v := .int o_spots) (C := R_Mod) (T := F_Mod) (N := 24) hx hb hts i_Mod hown hK hP 0 rfl rfl 20 (by decide) (hts _ k_628) (fun _ h9 => h9) rfl d_Mod_spot_4 ?_
  refine lv_iconst (v := 1) hx hb d_Mod_spot_7 (by decide) ?_
  refine lv_isub hx hb d_Mod_spot_8 ?_
  obtain ⟨v1, hu1, h⟩ := pu_bd h
  refine cc_S (As := [.int a1, .int 0, .int (o_spots - 1)]) (rest := [.ref q_o]) ⟨hx, hb, hml, hown, hts⟩ (c_Mod_within l dC dI cI cJ cZ a1 0 (o_spots - 1) v1 hu1) (cwS 3 hts (gS k_694 k_695 k_9 k_696 rfl) rfl rfl rfl hdV_Mod_within ⟨Nat.le_of_ble_eq_true rfl, Nat.le_of_ble_eq_true rfl⟩) hK hN hP hD hS hA [] [0, 1, 2] (w0 := []) (wr := [(q_o, .inr (7, [.int o_thrown, .int o_width, .int o_height, .ref q_o_former, .ref q_o_later, .ref q_o_charts, .ref q_o_lows, .ref q_o_highs, .int o_repeats, .int o_wide, .int o_floor, .int o_across, .int o_down, .long o_sum, .long o_many, .long o_above, .long o_below, .ref q_o_firsts, .ref q_o_changes, .int o_marked, .int o_spots, .int o_days, .ref q_o_dates, .ref q_o_kept])), (q_o_firsts, .inl (cI, o_firsts_n, .inl o_firsts_f)), (q_o_changes, .inl (cI, o_changes_n, .inl o_changes_f))]) rfl rfl (by decide) (by decide) (by decide) rfl hl.1 rfl (Nat.le_of_ble_eq_true rfl) d_Mod_spot_9 ⟨Nat.le_of_ble_eq_true rfl, Nat.le_of_ble_eq_true rfl⟩ (fun w1 H locs hw1 hP hD hS => ?_)
  subst hw1
  have hP : va_P (dC, dI) vwCl [(q_o, .inr (7, [.int o_thrown, .int o_width, .int o_height, .ref q_o_former, .ref q_o_later, .ref q_o_charts, .ref q_o_lows, .ref q_o_highs, .int o_repeats, .int o_wide, .int o_floor, .int o_across, .int o_down, .long o_sum, .long o_many, .long o_above, .long o_below, .ref q_o_firsts, .ref q_o_changes, .int o_marked, .int o_spots, .int o_days, .ref q_o_dates, .ref q_o_kept])), (q_o_firsts, .inl (cI, o_firsts_n, .inl o_firsts_f)), (q_o_changes, .inl (cI, o_changes_n, .inl o_changes_f))] H := hP
  have hD : va_D A [(q_o, .inr (7, [.int o_thrown, .int o_width, .int o_height, .ref q_o_former, .ref q_o_later, .ref q_o_charts, .ref q_o_lows, .ref q_o_highs, .int o_repeats, .int o_wide, .int o_floor, .int o_across, .int o_down, .long o_sum, .long o_many, .long o_above, .long o_below, .ref q_o_firsts, .ref q_o_changes, .int o_marked, .int o_spots, .int o_days, .ref q_o_dates, .ref q_o_kept])), (q_o_firsts, .inl (cI, o_firsts_n, .inl o_firsts_f)), (q_o_changes, .inl (cI, o_changes_n, .inl o_changes_f))] := hD
  obtain ⟨j_2, hj_2, hx_2⟩ := pu_bd h
  have J_2 : ∀ (j2_4 : Int32) (H : Heap) (locs : List Loc) (ls : Array Slot), j_2 = j2_4 → lv_has ls 3 [(0, .ref q_o), (1, .int a1), (2, .int a2)] → va_P (dC, dI) vwCl [(q_o, .inr (7, [.int o_thrown, .int o_width, .int o_height, .ref q_o_former, .ref q_o_later, .ref q_o_charts, .ref q_o_lows, .ref q_o_highs, .int o_repeats, .int o_wide, .int o_floor, .int o_across, .int o_down, .long o_sum, .long o_many, .long o_above, .long o_below, .ref q_o_firsts, .ref q_o_changes, .int o_marked, .int o_spots, .int o_days, .ref q_o_dates, .ref q_o_kept])), (q_o_firsts, .inl (cI, o_firsts_n, .inl o_firsts_f)), (q_o_changes, .inl (cI, o_changes_n, .inl o_changes_f))] H → va_D A [(q_o, .inr (7, [.int o_thrown, .int o_width, .int o_height, .ref q_o_former, .ref q_o_later, .ref q_o_charts, .ref q_o_lows, .ref q_o_highs, .int o_repeats, .int o_wide, .int o_floor, .int o_across, .int o_down, .long o_sum, .long o_many, .long o_above, .long o_below, .ref q_o_firsts, .ref q_o_changes, .int o_marked, .int o_spots, .int o_days, .ref q_o_dates, .ref q_o_kept])), (q_o_firsts, .inl (cI, o_firsts_n, .inl o_firsts_f)), (q_o_changes, .inl (cI, o_changes_n, .inl o_changes_f))] → va_S A s.heap H locs → W p l e rm_Mod_spot s m args below meth c H locs 0 0 Q (F0 m 30 ls [.int j2_4, .ref q_o]) := by
    intro j2_4 H locs ls he hl hP hD hS
    have h := hx_2
    rw [he] at h
    try dsimp only at h
    refine lv_iconst (v := 1) hx hb d_Mod_spot_30 (by decide) ?_
    refine lv_iconst (v := 1) hx hb d_Mod_spot_31 (by decide) ?_
    obtain ⟨⟨v5, u5_0⟩, hu5, h⟩ := pu_bd h
    try dsimp only at h
    refine cc_V (As := [.int j2_4, .int 1, .int 1]) (rest := []) ⟨hx, hb, hml, hown, hts⟩ (c_Mod_goes l dC dI cI cJ cZ q_o q_o_former q_o_later q_o_charts q_o_lows q_o_highs q_o_firsts q_o_changes q_o_dates q_o_kept j2_4 1 1 o_thrown o_width o_height o_repeats o_wide o_floor o_across o_down o_sum o_many o_above o_below o_marked o_spots o_days v5 u5_0 hu5) (cwV 3 hts (gV k_697 k_699 kp_16 k_9 k_700 rfl) rfl rfl rfl hdV_Mod_goes ⟨Nat.le_of_ble_eq_true rfl, Nat.le_of_ble_eq_true rfl⟩) hK hN hP hD hS hA [0] [1, 2] (w0 := [(q_o, .inr (7, [.int o_thrown, .int o_width, .int o_height, .ref q_o_former, .ref q_o_later, .ref q_o_charts, .ref q_o_lows, .ref q_o_highs, .int o_repeats, .int o_wide, .int o_floor, .int o_across, .int o_down, .long o_sum, .long o_many, .long o_above, .long o_below, .ref q_o_firsts, .ref q_o_changes, .int o_marked, .int o_spots, .int o_days, .ref q_o_dates, .ref q_o_kept]))]) (wr := [(q_o_firsts, .inl (cI, o_firsts_n, .inl o_firsts_f)), (q_o_changes, .inl (cI, o_changes_n, .inl o_changes_f))]) rfl rfl (by decide) (by decide) (by decide) 7 rfl rfl rfl hl.1 rfl (Nat.le_of_ble_eq_true rfl) d_Mod_spot_32 ⟨Nat.le_of_ble_eq_true rfl, Nat.le_of_ble_eq_true rfl⟩ (fun w1 H locs hw1 hP hD hS => ?_)
    subst hw1
    have hP : va_P (dC, dI) vwCl [(q_o_firsts, .inl (cI, o_firsts_n, .inl o_firsts_f)), (q_o_changes, .inl (cI, o_changes_n, .inl o_changes_f)), (q_o, .inr (7, [.int u5_0, .int o_width, .int o_height, .ref q_o_former, .ref q_o_later, .ref q_o_charts, .ref q_o_lows, .ref q_o_highs, .int o_repeats, .int o_wide, .int o_floor, .int o_across, .int o_down, .long o_sum, .long o_many, .long o_above, .long o_below, .ref q_o_firsts, .ref q_o_changes, .int o_marked, .int o_spots, .int o_days, .ref q_o_dates, .ref q_o_kept]))] H := hP
    have hD : va_D A [(q_o_firsts, .inl (cI, o_firsts_n, .inl o_firsts_f)), (q_o_changes, .inl (cI, o_changes_n, .inl o_changes_f)), (q_o, .inr (7, [.int u5_0, .int o_width, .int o_height, .ref q_o_former, .ref q_o_later, .ref q_o_charts, .ref q_o_lows, .ref q_o_highs, .int o_repeats, .int o_wide, .int o_floor, .int o_across, .int o_down, .long o_sum, .long o_many, .long o_above, .long o_below, .ref q_o_firsts, .ref q_o_changes, .int o_marked, .int o_spots, .int o_days, .ref q_o_dates, .ref q_o_kept]))] := hD
    refine lv_if_eq (tgt := 47) hx hb d_Mod_spot_35 (by decide) (fun hc => ?_) (fun hc => ?_)
    · have h := pu_t hc h
      refine lv_iconst (v := 0) hx hb d_Mod_spot_47 (by decide) ?_
      cases h
      refine W.widen (k := 0) (n := 0) (Nat.le_of_ble_eq_true rfl) (Nat.le_of_ble_eq_true rfl) ?_
      exact RT 48 ls H locs _ d_Mod_spot_48 (Or.inr (Or.inl ⟨rfl, _, rfl⟩)) rfl (hP.sub [2, 0, 1] rfl) (hD.sub [2, 0, 1] (by decide) rfl) hS
    · have h := pu_f hc h
      refine lv_aload_n hx hb d_Mod_spot_38 rfl (lv_at hl 0 rfl) ?_
      refine lv_iload_n hx hb d_Mod_spot_39 rfl (lv_at hl 1 rfl) ?_
      refine lv_iload_n hx hb d_Mod_spot_40 rfl (lv_at hl 2 rfl) ?_
      obtain ⟨v6, hu6, h⟩ := pu_bd h
      refine cc_V (As := [.int a1, .int a2]) (rest := []) ⟨hx, hb, hml, hown, hts⟩ (c_Mod_numbers l dC dI cI cJ cZ q_o q_o_former q_o_later q_o_charts q_o_lows q_o_highs q_o_firsts q_o_changes q_o_dates q_o_kept a1 a2 u5_0 o_width o_height o_repeats o_wide o_floor o_across o_down o_sum o_many o_above o_below o_marked o_spots o_days o_firsts_n o_firsts_f o_changes_n o_changes_f v6 hu6) (cwV 2 hts (gV k_785 k_787 kp_26 k_9 k_788 rfl) rfl rfl rfl hdV_Mod_numbers ⟨Nat.le_of_ble_eq_true rfl, Nat.le_of_ble_eq_true rfl⟩) hK hN hP hD hS hA [2, 0, 1] [] (w0 := [(q_o, .inr (7, [.int u5_0, .int o_width, .int o_height, .ref q_o_former, .ref q_o_later, .ref q_o_charts, .ref q_o_lows, .ref q_o_highs, .int o_repeats, .int o_wide, .int o_floor, .int o_across, .int o_down, .long o_sum, .long o_many, .long o_above, .long o_below, .ref q_o_firsts, .ref q_o_changes, .int o_marked, .int o_spots, .int o_days, .ref q_o_dates, .ref q_o_kept])), (q_o_firsts, .inl (cI, o_firsts_n, .inl o_firsts_f)), (q_o_changes, .inl (cI, o_changes_n, .inl o_changes_f))]) (wr := []) rfl rfl (by decide) (by decide) (by decide) 7 rfl rfl rfl hl.1 rfl (Nat.le_of_ble_eq_true rfl) d_Mod_spot_41 ⟨Nat.le_of_ble_eq_true rfl, Nat.le_of_ble_eq_true rfl⟩ (fun w1 H locs hw1 hP hD hS => ?_)
      subst hw1
      have hP : va_P (dC, dI) vwCl [(q_o, .inr (7, [.int u5_0, .int o_width, .int o_height, .ref q_o_former, .ref q_o_later, .ref q_o_charts, .ref q_o_lows, .ref q_o_highs, .int o_repeats, .int o_wide, .int o_floor, .int o_across, .int o_down, .long o_sum, .long o_many, .long o_above, .long o_below, .ref q_o_firsts, .ref q_o_changes, .int o_marked, .int o_spots, .int o_days, .ref q_o_dates, .ref q_o_kept])), (q_o_firsts, .inl (cI, o_firsts_n, .inl o_firsts_f)), (q_o_changes, .inl (cI, o_changes_n, .inl o_changes_f))] H := hP
      have hD : va_D A [(q_o, .inr (7, [.int u5_0, .int o_width, .int o_height, .ref q_o_former, .ref q_o_later, .ref q_o_charts, .ref q_o_lows, .ref q_o_highs, .int o_repeats, .int o_wide, .int o_floor, .int o_across, .int o_down, .long o_sum, .long o_many, .long o_above, .long o_below, .ref q_o_firsts, .ref q_o_changes, .int o_marked, .int o_spots, .int o_days, .ref q_o_dates, .ref q_o_kept])), (q_o_firsts, .inl (cI, o_firsts_n, .inl o_firsts_f)), (q_o_changes, .inl (cI, o_changes_n, .inl o_changes_f))] := hD
      refine lv_goto (tgt := 48) hx hb d_Mod_spot_44 (by decide) ?_
      cases h
      refine W.widen (k := 0) (n := 0) (Nat.le_of_ble_eq_true rfl) (Nat.le_of_ble_eq_true rfl) ?_
      exact RT 48 ls H locs _ d_Mod_spot_48 (Or.inr (Or.inl ⟨rfl, _, rfl⟩)) rfl (hP.sub [0, 1, 2] rfl) (hD.sub [0, 1, 2] (by decide) rfl) hS
  have h := hj_2
  refine lv_if_eq (tgt := 29) hx hb d_Mod_spot_12 (by decide) (fun hc => ?_) (fun hc => ?_)
  · have h := pu_t hc h
    refine lv_iconst (v := 0) hx hb d_Mod_spot_29 (by decide) ?_
    exact J_2 0 H locs ls (Option.some.inj h).symm (lv_sub hl [0, 1, 2] rfl) (hP.sub [0, 1, 2] rfl) (hD.sub [0, 1, 2] (by decide) rfl) hS
  · have h := pu_f hc h
    refine lv_iload_n hx hb d_Mod_spot_15 rfl (lv_at hl 2 rfl) ?_
    refine lv_iconst (v := 0) hx hb d_Mod_spot_16 (by decide) ?_
    refine lv_bipush (v := 6) hx hb d_Mod_spot_17 (by decide) ?_
    obtain ⟨v3, hu3, h⟩ := pu_bd h
    refine cc_S (As := [.int a2, .int 0, .int 6]) (rest := [.ref q_o]) ⟨hx, hb, hml, hown, hts⟩ (c_Mod_within l dC dI cI cJ cZ a2 0 6 v3 hu3) (cwS 3 hts (gS k_694 k_695 k_9 k_696 rfl) rfl rfl rfl hdV_Mod_within ⟨Nat.le_of_ble_eq_true rfl, Nat.le_of_ble_eq_true rfl⟩) hK hN hP hD hS hA [] [0, 1, 2] (w0 := []) (wr := [(q_o, .inr (7, [.int o_thrown, .int o_width, .int o_height, .ref q_o_former, .ref q_o_later, .ref q_o_charts, .ref q_o_lows, .ref q_o_highs, .int o_repeats, .int o_wide, .int o_floor, .int o_across, .int o_down, .long o_sum, .long o_many, .long o_above, .long o_below, .ref q_o_firsts, .ref q_o_changes, .int o_marked, .int o_spots, .int o_days, .ref q_o_dates, .ref q_o_kept])), (q_o_firsts, .inl (cI, o_firsts_n, .inl o_firsts_f)), (q_o_changes, .inl (cI, o_changes_n, .inl o_changes_f))]) rfl rfl (by decide) (by decide) (by decide) rfl hl.1 rfl (Nat.le_of_ble_eq_true rfl) d_Mod_spot_19 ⟨Nat.le_of_ble_eq_true rfl, Nat.le_of_ble_eq_true rfl⟩ (fun w1 H locs hw1 hP hD hS => ?_)
    subst hw1
    have hP : va_P (dC, dI) vwCl [(q_o, .inr (7, [.int o_thrown, .int o_width, .int o_height, .ref q_o_former, .ref q_o_later, .ref q_o_charts, .ref q_o_lows, .ref q_o_highs, .int o_repeats, .int o_wide, .int o_floor, .int o_across, .int o_down, .long o_sum, .long o_many, .long o_above, .long o_below, .ref q_o_firsts, .ref q_o_changes, .int o_marked, .int o_spots, .int o_days, .ref q_o_dates, .ref q_o_kept])), (q_o_firsts, .inl (cI, o_firsts_n, .inl o_firsts_f)), (q_o_changes, .inl (cI, o_changes_n, .inl o_changes_f))] H := hP
    have hD : va_D A [(q_o, .inr (7, [.int o_thrown, .int o_width, .int o_height, .ref q_o_former, .ref q_o_later, .ref q_o_charts, .ref q_o_lows, .ref q_o_highs, .int o_repeats, .int o_wide, .int o_floor, .int o_across, .int o_down, .long o_sum, .long o_many, .long o_above, .long o_below, .ref q_o_firsts, .ref q_o_changes, .int o_marked, .int o_spots, .int o_days, .ref q_o_dates, .ref q_o_kept])), (q_o_firsts, .inl (cI, o_firsts_n, .inl o_firsts_f)), (q_o_changes, .inl (cI, o_changes_n, .inl o_changes_f))] := hD
    refine lv_if_eq (tgt := 29) hx hb d_Mod_spot_22 (by decide) (fun hc => ?_) (fun hc => ?_)
    · have h := pu_t hc h
      refine lv_iconst (v := 0) hx hb d_Mod_spot_29 (by decide) ?_
      exact J_2 0 H locs ls (Option.some.inj h).symm (lv_sub hl [0, 1, 2] rfl) (hP.sub [0, 1, 2] rfl) (hD.sub [0, 1, 2] (by decide) rfl) hS
    · have h := pu_f hc h
      refine lv_iconst (v := 1) hx hb d_Mod_spot_25 (by decide) ?_
      refine lv_goto (tgt := 30) hx hb d_Mod_spot_26 (by decide) ?_
      exact J_2 1 H locs ls (Option.some.inj h).symm (lv_sub hl [0, 1, 2] rfl) (hP.sub [0, 1, 2] rfl) (hD.sub [0, 1, 2] (by decide) rfl) hS

noncomputable def p_Mod_map_L3 (a1 : Int32) (a2 : Int32) (o_firsts_n : Nat) (o_firsts_f : Nat → Int32) : (Int32 × Int32) → Option ((Int32 × Int32) ⊕ (Int32 × Int32)) := fun ((x4_4, x5_5) : Int32 × Int32) =>
  (if (o_firsts_f ((24 * a2) + a1).toNatClampNeg) < x5_5 then some (.inr (x4_4, x5_5)) else pu_gd (vp_in x5_5 o_firsts_n) ((if (o_firsts_f x5_5.toNatClampNeg) = x5_5 then some (.inl ((x4_4 + 1), (x5_5 + 1))) else some (.inl (x4_4, (x5_5 + 1))))))
noncomputable def p_Mod_map (a1 : Int32) (a2 : Int32) (o_thrown : Int32) (o_width : Int32) (o_height : Int32) (o_repeats : Int32) (o_wide : Int32) (o_floor : Int32) (o_across : Int32) (o_down : Int32) (o_sum : Int64) (o_many : Int64) (o_above : Int64) (o_below : Int64) (o_marked : Int32) (o_spots : Int32) (o_days : Int32) (o_firsts_n : Nat) (o_firsts_f : Nat → Int32) : Option (Int32 × Int32) :=
  (p_Mod_isCell a1 a2 o_thrown o_width o_height o_repeats o_wide o_floor o_across o_down o_sum o_many o_above o_below o_marked o_spots o_days).bind (fun (v1 : Int32) => (p_Mod_goes v1 1 1 o_thrown o_width o_height o_repeats o_wide o_floor o_across o_down o_sum o_many o_above o_below o_marked o_spots o_days).bind (fun ((v2, u2_0) : Int32 × Int32) => (if v2 = 0 then some (0, u2_0) else pu_gd (vp_in ((24 * a2) + a1) o_firsts_n) ((pu_loop (p_Mod_map_L3 a1 a2 o_firsts_n o_firsts_f) ((-1), 0)).bind (fun ((y4_6, y5_7) : Int32 × Int32) => some (y4_6, u2_0))))))
set_option maxHeartbeats 4000000 in
set_option maxRecDepth 100000 in
theorem c_Mod_map (l : Launch) (dC : Nat → ClassId) (dI : Nat → Nat → Nat) (cI cJ cZ : ClassId) (q_o q_o_former q_o_later q_o_charts q_o_lows q_o_highs q_o_firsts q_o_changes q_o_dates q_o_kept : Nat) (a1 : Int32) (a2 : Int32) (o_thrown : Int32) (o_width : Int32) (o_height : Int32) (o_repeats : Int32) (o_wide : Int32) (o_floor : Int32) (o_across : Int32) (o_down : Int32) (o_sum : Int64) (o_many : Int64) (o_above : Int64) (o_below : Int64) (o_marked : Int32) (o_spots : Int32) (o_days : Int32) (o_firsts_n : Nat) (o_firsts_f : Nat → Int32) (r0 : Int32) (r1 : Int32) (h : p_Mod_map a1 a2 o_thrown o_width o_height o_repeats o_wide o_floor o_across o_down o_sum o_many o_above o_below o_marked o_spots o_days o_firsts_n o_firsts_f = some (r0, r1)) : ct l y_Mod_map w_Mod_map rm_Mod_map (dC, dI) [(cI, .int), (cJ, .long), (cZ, .boolean)] [.ref q_o, .int a1, .int a2] [(q_o, .inr (7, [.int o_thrown, .int o_width, .int o_height, .ref q_o_former, .ref q_o_later, .ref q_o_charts, .ref q_o_lows, .ref q_o_highs, .int o_repeats, .int o_wide, .int o_floor, .int o_across, .int o_down, .long o_sum, .long o_many, .long o_above, .long o_below, .ref q_o_firsts, .ref q_o_changes, .int o_marked, .int o_spots, .int o_days, .ref q_o_dates, .ref q_o_kept])), (q_o_firsts, .inl (cI, o_firsts_n, .inl o_firsts_f))] (fun w => w = [(q_o, .inr (7, [.int r1, .int o_width, .int o_height, .ref q_o_former, .ref q_o_later, .ref q_o_charts, .ref q_o_lows, .ref q_o_highs, .int o_repeats, .int o_wide, .int o_floor, .int o_across, .int o_down, .long o_sum, .long o_many, .long o_above, .long o_below, .ref q_o_firsts, .ref q_o_changes, .int o_marked, .int o_spots, .int o_days, .ref q_o_dates, .ref q_o_kept])), (q_o_firsts, .inl (cI, o_firsts_n, .inl o_firsts_f))]) (some (.int r0)) := by
  refine ct_of (cc := b_Mod_map) (maxL := 6) (ret := (some .int)) (lv := [(0, .ref q_o), (1, .int a1), (2, .int a2)]) (by decide) rfl rfl rfl ?_
  intro p e s m args below meth c A Q H locs hx hb hml hown hts hin hA hK hN hP hD hS RT ls hl
  unfold p_Mod_map at h
  refine lv_aload_n hx hb d_Mod_map_0 rfl (lv_at hl 0 rfl) ?_
  refine lv_aload_n hx hb d_Mod_map_1 rfl (lv_at hl 0 rfl) ?_
  refine lv_iload_n hx hb d_Mod_map_2 rfl (lv_at hl 1 rfl) ?_
  refine lv_iload_n hx hb d_Mod_map_3 rfl (lv_at hl 2 rfl) ?_
  obtain ⟨v1, hu1, h⟩ := pu_bd h
  refine cc_V (As := [.int a1, .int a2]) (rest := [.ref q_o]) ⟨hx, hb, hml, hown, hts⟩ (c_Mod_isCell l dC dI cI cJ cZ q_o q_o_former q_o_later q_o_charts q_o_lows q_o_highs q_o_firsts q_o_changes q_o_dates q_o_kept a1 a2 o_thrown o_width o_height o_repeats o_wide o_floor o_across o_down o_sum o_many o_above o_below o_marked o_spots o_days v1 hu1) (cwV 2 hts (gV k_690 k_692 kp_15 k_9 k_693 rfl) rfl rfl rfl hdV_Mod_isCell ⟨Nat.le_of_ble_eq_true rfl, Nat.le_of_ble_eq_true rfl⟩) hK hN hP hD hS hA [0] [1] (w0 := [(q_o, .inr (7, [.int o_thrown, .int o_width, .int o_height, .ref q_o_former, .ref q_o_later, .ref q_o_charts, .ref q_o_lows, .ref q_o_highs, .int o_repeats, .int o_wide, .int o_floor, .int o_across, .int o_down, .long o_sum, .long o_many, .long o_above, .long o_below, .ref q_o_firsts, .ref q_o_changes, .int o_marked, .int o_spots, .int o_days, .ref q_o_dates, .ref q_o_kept]))]) (wr := [(q_o_firsts, .inl (cI, o_firsts_n, .inl o_firsts_f))]) rfl rfl (by decide) (by decide) (by decide) 7 rfl rfl rfl hl.1 rfl (Nat.le_of_ble_eq_true rfl) d_Mod_map_4 ⟨Nat.le_of_ble_eq_true rfl, Nat.le_of_ble_eq_true rfl⟩ (fun w1 H locs hw1 hP hD hS => ?_)
  subst hw1
  have hP : va_P (dC, dI) vwCl [(q_o_firsts, .inl (cI, o_firsts_n, .inl o_firsts_f)), (q_o, .inr (7, [.int o_thrown, .int o_width, .int o_height, .ref q_o_former, .ref q_o_later, .ref q_o_charts, .ref q_o_lows, .ref q_o_highs, .int o_repeats, .int o_wide, .int o_floor, .int o_across, .int o_down, .long o_sum, .long o_many, .long o_above, .long o_below, .ref q_o_firsts, .ref q_o_changes, .int o_marked, .int o_spots, .int o_days, .ref q_o_dates, .ref q_o_kept]))] H := hP
  have hD : va_D A [(q_o_firsts, .inl (cI, o_firsts_n, .inl o_firsts_f)), (q_o, .inr (7, [.int o_thrown, .int o_width, .int o_height, .ref q_o_former, .ref q_o_later, .ref q_o_charts, .ref q_o_lows, .ref q_o_highs, .int o_repeats, .int o_wide, .int o_floor, .int o_across, .int o_down, .long o_sum, .long o_many, .long o_above, .long o_below, .ref q_o_firsts, .ref q_o_changes, .int o_marked, .int o_spots, .int o_days, .ref q_o_dates, .ref q_o_kept]))] := hD
  refine lv_iconst (v := 1) hx hb d_Mod_map_7 (by decide) ?_
  refine lv_iconst (v := 1) hx hb d_Mod_map_8 (by decide) ?_
  obtain ⟨⟨v2, u2_0⟩, hu2, h⟩ := pu_bd h
  try dsimp only at h
  refine cc_V (As := [.int v1, .int 1, .int 1]) (rest := []) ⟨hx, hb, hml, hown, hts⟩ (c_Mod_goes l dC dI cI cJ cZ q_o q_o_former q_o_later q_o_charts q_o_lows q_o_highs q_o_firsts q_o_changes q_o_dates q_o_kept v1 1 1 o_thrown o_width o_height o_repeats o_wide o_floor o_across o_down o_sum o_many o_above o_below o_marked o_spots o_days v2 u2_0 hu2) (cwV 3 hts (gV k_697 k_699 kp_16 k_9 k_700 rfl) rfl rfl rfl hdV_Mod_goes ⟨Nat.le_of_ble_eq_true rfl, Nat.le_of_ble_eq_true rfl⟩) hK hN hP hD hS hA [1] [0] (w0 := [(q_o, .inr (7, [.int o_thrown, .int o_width, .int o_height, .ref q_o_former, .ref q_o_later, .ref q_o_charts, .ref q_o_lows, .ref q_o_highs, .int o_repeats, .int o_wide, .int o_floor, .int o_across, .int o_down, .long o_sum, .long o_many, .long o_above, .long o_below, .ref q_o_firsts, .ref q_o_changes, .int o_marked, .int o_spots, .int o_days, .ref q_o_dates, .ref q_o_kept]))]) (wr := [(q_o_firsts, .inl (cI, o_firsts_n, .inl o_firsts_f))]) rfl rfl (by decide) (by decide) (by decide) 7 rfl rfl rfl hl.1 rfl (Nat.le_of_ble_eq_true rfl) d_Mod_map_9 ⟨Nat.le_of_ble_eq_true rfl, Nat.le_of_ble_eq_true rfl⟩ (fun w1 H locs hw1 hP hD hS => ?_)
  subst hw1
  have hP : va_P (dC, dI) vwCl [(q_o_firsts, .inl (cI, o_firsts_n, .inl o_firsts_f)), (q_o, .inr (7, [.int u2_0, .int o_width, .int o_height, .ref q_o_former, .ref q_o_later, .ref q_o_charts, .ref q_o_lows, .ref q_o_highs, .int o_repeats, .int o_wide, .int o_floor, .int o_across, .int o_down, .long o_sum, .long o_many, .long o_above, .long o_below, .ref q_o_firsts, .ref q_o_changes, .int o_marked, .int o_spots, .int o_days, .ref q_o_dates, .ref q_o_kept]))] H := hP
  have hD : va_D A [(q_o_firsts, .inl (cI, o_firsts_n, .inl o_firsts_f)), (q_o, .inr (7, [.int u2_0, .int o_width, .int o_height, .ref q_o_former, .ref q_o_later, .ref q_o_charts, .ref q_o_lows, .ref q_o_highs, .int o_repeats, .int o_wide, .int o_floor, .int o_across, .int o_down, .long o_sum, .long o_many, .long o_above, .long o_below, .ref q_o_firsts, .ref q_o_changes, .int o_marked, .int o_spots, .int o_days, .ref q_o_dates, .ref q_o_kept]))] := hD
  refine lv_if_ne (tgt := 17) hx hb d_Mod_map_12 (by decide) (fun hc => ?_) (fun hc => ?_)
  · have h := pu_f hc h
    refine lv_aload_n hx hb d_Mod_map_17 rfl (lv_at hl 0 rfl) ?_
    refine va_get (D := (dC, dI)) (ci := 7) (v := .ref q_o_firsts) (C := R_Mod) (T := F_Mod) (N := 24) hx hb hts i_Mod hown hK hP 1 rfl rfl 17 (by decide) (hts _ k_625) (fun _ h9 => h9) rfl d_Mod_map_18 ?_
    refine lv_bipush (v := 24) hx hb d_Mod_map_21 (by decide) ?_
    refine lv_iload_n hx hb d_Mod_map_23 rfl (lv_at hl 2 rfl) ?_
    refine lv_imul hx hb d_Mod_map_24 ?_
    refine lv_iload_n hx hb d_Mod_map_25 rfl (lv_at hl 1 rfl) ?_
    refine lv_iadd hx hb d_Mod_map_26 ?_
    obtain ⟨hg, h⟩ := pu_g h
    refine va_iald hx hb hK hP 0 0 rfl rfl hg d_Mod_map_27 ?_
    refine lv_istore_n (lv' := [(3, .int (o_firsts_f ((24 * a2) + a1).toNatClampNeg)), (0, .ref q_o), (1, .int a1), (2, .int a2)]) hx hb d_Mod_map_28 rfl hl (by decide) rfl (fun ls hl => ?_)
    refine lv_iconst (v := (-1)) hx hb d_Mod_map_29 (by decide) ?_
    refine lv_istore (lv' := [(4, .int (-1)), (3, .int (o_firsts_f ((24 * a2) + a1).toNatClampNeg)), (0, .ref q_o), (1, .int a1), (2, .int a2)]) hx hb d_Mod_map_30 hl (by decide) rfl (fun ls hl => ?_)
    refine lv_iconst (v := 0) hx hb d_Mod_map_32 (by decide) ?_
    refine lv_istore (lv' := [(5, .int 0), (4, .int (-1)), (3, .int (o_firsts_f ((24 * a2) + a1).toNatClampNeg)), (0, .ref q_o), (1, .int a1), (2, .int a2)]) hx hb d_Mod_map_33 hl (by decide) rfl (fun ls hl => ?_)
    obtain ⟨e_3, he_3, hx_3⟩ := pu_bd h
    obtain ⟨n_3, hn_3⟩ := pu_loop_it he_3
    have K_3 : ∀ (y4_6 : Int32) (y5_7 : Int32) (H : Heap) (locs : List Loc) (ls : Array Slot), e_3 = (y4_6, y5_7) → lv_has ls 6 [(5, .int y5_7), (4, .int y4_6), (3, .int (o_firsts_f ((24 * a2) + a1).toNatClampNeg)), (0, .ref q_o), (1, .int a1), (2, .int a2)] → va_P (dC, dI) vwCl [(q_o_firsts, .inl (cI, o_firsts_n, .inl o_firsts_f)), (q_o, .inr (7, [.int u2_0, .int o_width, .int o_height, .ref q_o_former, .ref q_o_later, .ref q_o_charts, .ref q_o_lows, .ref q_o_highs, .int o_repeats, .int o_wide, .int o_floor, .int o_across, .int o_down, .long o_sum, .long o_many, .long o_above, .long o_below, .ref q_o_firsts, .ref q_o_changes, .int o_marked, .int o_spots, .int o_days, .ref q_o_dates, .ref q_o_kept]))] H → va_D A [(q_o_firsts, .inl (cI, o_firsts_n, .inl o_firsts_f)), (q_o, .inr (7, [.int u2_0, .int o_width, .int o_height, .ref q_o_former, .ref q_o_later, .ref q_o_charts, .ref q_o_lows, .ref q_o_highs, .int o_repeats, .int o_wide, .int o_floor, .int o_across, .int o_down, .long o_sum, .long o_many, .long o_above, .long o_below, .ref q_o_firsts, .ref q_o_changes, .int o_marked, .int o_spots, .int o_days, .ref q_o_dates, .ref q_o_kept]))] → va_S A s.heap H locs → W p l e rm_Mod_map s m args below meth c H locs 0 0 Q (F0 m 70 ls []) := by
      intro y4_6 y5_7 H locs ls he hl hP hD hS
      have h := hx_3
      rw [he] at h
      try dsimp only at h
      refine lv_iload hx hb d_Mod_map_70 (lv_at hl 1 rfl) ?_
      cases h
      refine W.widen (k := 0) (n := 0) (Nat.le_of_ble_eq_true rfl) (Nat.le_of_ble_eq_true rfl) ?_
      exact RT 72 ls H locs _ d_Mod_map_72 (Or.inr (Or.inl ⟨rfl, _, rfl⟩)) rfl (hP.sub [1, 0] rfl) (hD.sub [1, 0] (by decide) rfl) hS
    have L_3 : ∀ (n : Nat) (x4_4 : Int32) (x5_5 : Int32) (H : Heap) (locs : List Loc) (ls : Array Slot), pu_it (p_Mod_map_L3 a1 a2 o_firsts_n o_firsts_f) n (x4_4, x5_5) = some e_3 → lv_has ls 6 [(5, .int x5_5), (4, .int x4_4), (3, .int (o_firsts_f ((24 * a2) + a1).toNatClampNeg)), (0, .ref q_o), (1, .int a1), (2, .int a2)] → va_P (dC, dI) vwCl [(q_o_firsts, .inl (cI, o_firsts_n, .inl o_firsts_f)), (q_o, .inr (7, [.int u2_0, .int o_width, .int o_height, .ref q_o_former, .ref q_o_later, .ref q_o_charts, .ref q_o_lows, .ref q_o_highs, .int o_repeats, .int o_wide, .int o_floor, .int o_across, .int o_down, .long o_sum, .long o_many, .long o_above, .long o_below, .ref q_o_firsts, .ref q_o_changes, .int o_marked, .int o_spots, .int o_days, .ref q_o_dates, .ref q_o_kept]))] H → va_D A [(q_o_firsts, .inl (cI, o_firsts_n, .inl o_firsts_f)), (q_o, .inr (7, [.int u2_0, .int o_width, .int o_height, .ref q_o_former, .ref q_o_later, .ref q_o_charts, .ref q_o_lows, .ref q_o_highs, .int o_repeats, .int o_wide, .int o_floor, .int o_across, .int o_down, .long o_sum, .long o_many, .long o_above, .long o_below, .ref q_o_firsts, .ref q_o_changes, .int o_marked, .int o_spots, .int o_days, .ref q_o_dates, .ref q_o_kept]))] → va_S A s.heap H locs → W p l e rm_Mod_map s m args below meth c H locs 0 0 Q (F0 m 35 ls []) := by
      intro n
      induction n with
      | zero => intro x4_4 x5_5 H locs ls hn; exact (pu_it_0 hn).elim
      | succ n ih =>
        intro x4_4 x5_5 H locs ls hn hl hP hD hS
        obtain ⟨r_3, h, hr_3⟩ := pu_it_succ hn
        unfold p_Mod_map_L3 at h
        try dsimp only at h
        refine lv_iload hx hb d_Mod_map_35 (lv_at hl 0 rfl) ?_
        refine lv_iload_n hx hb d_Mod_map_37 rfl (lv_at hl 2 rfl) ?_
        refine lv_icmp_gt (tgt := 70) hx hb d_Mod_map_38 (by decide) (fun hc => ?_) (fun hc => ?_)
        · have h := pu_t hc h
          cases h
          exact K_3 x4_4 x5_5 H locs ls hr_3.symm (lv_sub hl [0, 1, 2, 3, 4, 5] rfl) (hP.sub [0, 1] rfl) (hD.sub [0, 1] (by decide) rfl) hS
        · have h := pu_f hc h
          refine lv_aload_n hx hb d_Mod_map_41 rfl (lv_at hl 3 rfl) ?_
          refine va_get (D := (dC, dI)) (ci := 7) (v := .ref q_o_firsts) (C := R_Mod) (T := F_Mod) (N := 24) hx hb hts i_Mod hown hK hP 1 rfl rfl 17 (by decide) (hts _ k_625) (fun _ h9 => h9) rfl d_Mod_map_42 ?_
          refine lv_iload hx hb d_Mod_map_45 (lv_at hl 0 rfl) ?_
          obtain ⟨hg, h⟩ := pu_g h
          refine va_iald hx hb hK hP 0 0 rfl rfl hg d_Mod_map_47 ?_
          refine lv_iload hx hb d_Mod_map_48 (lv_at hl 0 rfl) ?_
          refine lv_icmp_ne (tgt := 60) hx hb d_Mod_map_50 (by decide) (fun hc => ?_) (fun hc => ?_)
          · have h := pu_f hc h
            refine lv_iload hx hb d_Mod_map_60 (lv_at hl 1 rfl) ?_
            refine lv_istore (lv' := [(4, .int x4_4), (5, .int x5_5), (3, .int (o_firsts_f ((24 * a2) + a1).toNatClampNeg)), (0, .ref q_o), (1, .int a1), (2, .int a2)]) hx hb d_Mod_map_62 hl (by decide) rfl (fun ls hl => ?_)
            refine lv_iinc (v := (x5_5 + 1)) (lv' := [(5, .int (x5_5 + 1)), (4, .int x4_4), (3, .int (o_firsts_f ((24 * a2) + a1).toNatClampNeg)), (0, .ref q_o), (1, .int a1), (2, .int a2)]) hx hb d_Mod_map_64 hl (k := 1) rfl rfl (by decide) rfl (fun ls hl => ?_)
            refine lv_goto (tgt := 35) hx hb d_Mod_map_67 (by decide) ?_
            cases h
            exact ih x4_4 (x5_5 + 1) H locs ls hr_3 (lv_sub hl [0, 1, 2, 3, 4, 5] rfl) (hP.sub [0, 1] rfl) (hD.sub [0, 1] (by decide) rfl) hS
          · have h := pu_t hc h
            refine lv_iload hx hb d_Mod_map_53 (lv_at hl 1 rfl) ?_
            refine lv_iconst (v := 1) hx hb d_Mod_map_55 (by decide) ?_
            refine lv_iadd hx hb d_Mod_map_56 ?_
            refine lv_goto (tgt := 62) hx hb d_Mod_map_57 (by decide) ?_
            refine lv_istore (lv' := [(4, .int (x4_4 + 1)), (5, .int x5_5), (3, .int (o_firsts_f ((24 * a2) + a1).toNatClampNeg)), (0, .ref q_o), (1, .int a1), (2, .int a2)]) hx hb d_Mod_map_62 hl (by decide) rfl (fun ls hl => ?_)
            refine lv_iinc (v := (x5_5 + 1)) (lv' := [(5, .int (x5_5 + 1)), (4, .int (x4_4 + 1)), (3, .int (o_firsts_f ((24 * a2) + a1).toNatClampNeg)), (0, .ref q_o), (1, .int a1), (2, .int a2)]) hx hb d_Mod_map_64 hl (k := 1) rfl rfl (by decide) rfl (fun ls hl => ?_)
            refine lv_goto (tgt := 35) hx hb d_Mod_map_67 (by decide) ?_
            cases h
            exact ih (x4_4 + 1) (x5_5 + 1) H locs ls hr_3 (lv_sub hl [0, 1, 2, 3, 4, 5] rfl) (hP.sub [0, 1] rfl) (hD.sub [0, 1] (by decide) rfl) hS
    exact L_3 n_3 (-1) 0 H locs ls hn_3 hl hP hD hS
  · have h := pu_t hc h
    refine lv_iconst (v := 0) hx hb d_Mod_map_15 (by decide) ?_
    cases h
    refine W.widen (k := 0) (n := 0) (Nat.le_of_ble_eq_true rfl) (Nat.le_of_ble_eq_true rfl) ?_
    exact RT 16 ls H locs _ d_Mod_map_16 (Or.inr (Or.inl ⟨rfl, _, rfl⟩)) rfl (hP.sub [1, 0] rfl) (hD.sub [1, 0] (by decide) rfl) hS

noncomputable def p_Mod_alarm_L3 (a2 : Int32) (a3 : Int32) (o_width : Int32) (o_height : Int32) (o_repeats : Int32) (o_wide : Int32) (o_floor : Int32) (o_across : Int32) (o_down : Int32) (o_sum : Int64) (o_many : Int64) (o_above : Int64) (o_below : Int64) (o_marked : Int32) (o_spots : Int32) (o_days : Int32) (o_firsts_n : Nat) (o_firsts_f : Nat → Int32) (o_changes_n : Nat) (o_changes_f : Nat → Int32) (u2_0 : Int32) : (Int32) → Option ((Int32) ⊕ ((Int32) ⊕ (Int32 × Int32))) := fun (x4_4 : Int32) =>
  (if o_spots ≤ x4_4 then some (.inr (.inl x4_4)) else (p_Mod_numbers x4_4 6 u2_0 o_width o_height o_repeats o_wide o_floor o_across o_down o_sum o_many o_above o_below o_marked o_spots o_days o_firsts_n o_firsts_f o_changes_n o_changes_f).bind (fun (v5 : Int32) => (p_Mod_numbers x4_4 1 u2_0 o_width o_height o_repeats o_wide o_floor o_across o_down o_sum o_many o_above o_below o_marked o_spots o_days o_firsts_n o_firsts_f o_changes_n o_changes_f).bind (fun (v6 : Int32) => (if a2 < v6 then some (.inr (.inr (x4_4, u2_0))) else (if v5 = (-1) then some (.inl (x4_4 + 1)) else (if v5 < a3 then some (.inl (x4_4 + 1)) else some (.inr (.inr (x4_4, u2_0)))))))))
noncomputable def p_Mod_alarm (a1 : Int32) (a2 : Int32) (a3 : Int32) (o_thrown : Int32) (o_width : Int32) (o_height : Int32) (o_repeats : Int32) (o_wide : Int32) (o_floor : Int32) (o_across : Int32) (o_down : Int32) (o_sum : Int64) (o_many : Int64) (o_above : Int64) (o_below : Int64) (o_marked : Int32) (o_spots : Int32) (o_days : Int32) (o_firsts_n : Nat) (o_firsts_f : Nat → Int32) (o_changes_n : Nat) (o_changes_f : Nat → Int32) : Option (Int32 × Int32) :=
  (p_Mod_within a1 (-1) (o_spots - 1)).bind (fun (v1 : Int32) => (p_Mod_goes v1 1 1 o_thrown o_width o_height o_repeats o_wide o_floor o_across o_down o_sum o_many o_above o_below o_marked o_spots o_days).bind (fun ((v2, u2_0) : Int32 × Int32) => (if v2 = 0 then some (0, u2_0) else (pu_loop (p_Mod_alarm_L3 a2 a3 o_width o_height o_repeats o_wide o_floor o_across o_down o_sum o_many o_above o_below o_marked o_spots o_days o_firsts_n o_firsts_f o_changes_n o_changes_f u2_0) (a1 + 1)).bind (fun (e : (Int32) ⊕ (Int32 × Int32)) => match e with | .inl y4_7 => some ((-1), u2_0) | .inr r => some r))))
set_option maxHeartbeats 4000000 in
set_option maxRecDepth 100000 in
theorem c_Mod_alarm (l : Launch) (dC : Nat → ClassId) (dI : Nat → Nat → Nat) (cI cJ cZ : ClassId) (q_o q_o_former q_o_later q_o_charts q_o_lows q_o_highs q_o_firsts q_o_changes q_o_dates q_o_kept : Nat) (a1 : Int32) (a2 : Int32) (a3 : Int32) (o_thrown : Int32) (o_width : Int32) (o_height : Int32) (o_repeats : Int32) (o_wide : Int32) (o_floor : Int32) (o_across : Int32) (o_down : Int32) (o_sum : Int64) (o_many : Int64) (o_above : Int64) (o_below : Int64) (o_marked : Int32) (o_spots : Int32) (o_days : Int32) (o_firsts_n : Nat) (o_firsts_f : Nat → Int32) (o_changes_n : Nat) (o_changes_f : Nat → Int32) (r0 : Int32) (r1 : Int32) (h : p_Mod_alarm a1 a2 a3 o_thrown o_width o_height o_repeats o_wide o_floor o_across o_down o_sum o_many o_above o_below o_marked o_spots o_days o_firsts_n o_firsts_f o_changes_n o_changes_f = some (r0, r1)) : ct l y_Mod_alarm w_Mod_alarm rm_Mod_alarm (dC, dI) [(cI, .int), (cJ, .long), (cZ, .boolean)] [.ref q_o, .int a1, .int a2, .int a3] [(q_o, .inr (7, [.int o_thrown, .int o_width, .int o_height, .ref q_o_former, .ref q_o_later, .ref q_o_charts, .ref q_o_lows, .ref q_o_highs, .int o_repeats, .int o_wide, .int o_floor, .int o_across, .int o_down, .long o_sum, .long o_many, .long o_above, .long o_below, .ref q_o_firsts, .ref q_o_changes, .int o_marked, .int o_spots, .int o_days, .ref q_o_dates, .ref q_o_kept])), (q_o_firsts, .inl (cI, o_firsts_n, .inl o_firsts_f)), (q_o_changes, .inl (cI, o_changes_n, .inl o_changes_f))] (fun w => w = [(q_o, .inr (7, [.int r1, .int o_width, .int o_height, .ref q_o_former, .ref q_o_later, .ref q_o_charts, .ref q_o_lows, .ref q_o_highs, .int o_repeats, .int o_wide, .int o_floor, .int o_across, .int o_down, .long o_sum, .long o_many, .long o_above, .long o_below, .ref q_o_firsts, .ref q_o_changes, .int o_marked, .int o_spots, .int o_days, .ref q_o_dates, .ref q_o_kept])), (q_o_firsts, .inl (cI, o_firsts_n, .inl o_firsts_f)), (q_o_changes, .inl (cI, o_changes_n, .inl o_changes_f))]) (some (.int r0)) := by
  refine ct_of (cc := b_Mod_alarm) (maxL := 6) (ret := (some .int)) (lv := [(0, .ref q_o), (1, .int a1), (2, .int a2), (3, .int a3)]) (by decide) rfl rfl rfl ?_
  intro p e s m args below meth c A Q H locs hx hb hml hown hts hin hA hK hN hP hD hS RT ls hl
  unfold p_Mod_alarm at h
  refine lv_aload_n hx hb d_Mod_alarm_0 rfl (lv_at hl 0 rfl) ?_
  refine lv_iload_n hx hb d_Mod_alarm_1 rfl (lv_at hl 1 rfl) ?_
  refine lv_iconst (v := (-1)) hx hb d_Mod_alarm_2 (by decide) ?_
  refine lv_aload_n hx hb d_Mod_alarm_3 rfl (lv_at hl 0 rfl) ?_
  refine va_get (D := (dC, dI)) (ci := 7) (v := .int o_spots) (C := R_Mod) (T := F_Mod) (N := 24) hx hb hts i_Mod hown hK hP 0 rfl rfl 20 (by decide) (hts _ k_628) (fun _ h9 => h9) rfl d_Mod_alarm_4 ?_
  refine lv_iconst (v := 1) hx hb d_Mod_alarm_7 (by decide) ?_
  refine lv_isub hx hb d_Mod_alarm_8 ?_
  obtain ⟨v1, hu1, h⟩ := pu_bd h
  refine cc_S (As := [.int a1, .int (-1), .int (o_spots - 1)]) (rest := [.ref q_o]) ⟨hx, hb, hml, hown, hts⟩ (c_Mod_within l dC dI cI cJ cZ a1 (-1) (o_spots - 1) v1 hu1) (cwS 3 hts (gS k_694 k_695 k_9 k_696 rfl) rfl rfl rfl hdV_Mod_within ⟨Nat.le_of_ble_eq_true rfl, Nat.le_of_ble_eq_true rfl⟩) hK hN hP hD hS hA [] [0, 1, 2] (w0 := []) (wr := [(q_o, .inr (7, [.int o_thrown, .int o_width, .int o_height, .ref q_o_former, .ref q_o_later, .ref q_o_charts, .ref q_o_lows, .ref q_o_highs, .int o_repeats, .int o_wide, .int o_floor, .int o_across, .int o_down, .long o_sum, .long o_many, .long o_above, .long o_below, .ref q_o_firsts, .ref q_o_changes, .int o_marked, .int o_spots, .int o_days, .ref q_o_dates, .ref q_o_kept])), (q_o_firsts, .inl (cI, o_firsts_n, .inl o_firsts_f)), (q_o_changes, .inl (cI, o_changes_n, .inl o_changes_f))]) rfl rfl (by decide) (by decide) (by decide) rfl hl.1 rfl (Nat.le_of_ble_eq_true rfl) d_Mod_alarm_9 ⟨Nat.le_of_ble_eq_true rfl, Nat.le_of_ble_eq_true rfl⟩ (fun w1 H locs hw1 hP hD hS => ?_)
  subst hw1
  have hP : va_P (dC, dI) vwCl [(q_o, .inr (7, [.int o_thrown, .int o_width, .int o_height, .ref q_o_former, .ref q_o_later, .ref q_o_charts, .ref q_o_lows, .ref q_o_highs, .int o_repeats, .int o_wide, .int o_floor, .int o_across, .int o_down, .long o_sum, .long o_many, .long o_above, .long o_below, .ref q_o_firsts, .ref q_o_changes, .int o_marked, .int o_spots, .int o_days, .ref q_o_dates, .ref q_o_kept])), (q_o_firsts, .inl (cI, o_firsts_n, .inl o_firsts_f)), (q_o_changes, .inl (cI, o_changes_n, .inl o_changes_f))] H := hP
  have hD : va_D A [(q_o, .inr (7, [.int o_thrown, .int o_width, .int o_height, .ref q_o_former, .ref q_o_later, .ref q_o_charts, .ref q_o_lows, .ref q_o_highs, .int o_repeats, .int o_wide, .int o_floor, .int o_across, .int o_down, .long o_sum, .long o_many, .long o_above, .long o_below, .ref q_o_firsts, .ref q_o_changes, .int o_marked, .int o_spots, .int o_days, .ref q_o_dates, .ref q_o_kept])), (q_o_firsts, .inl (cI, o_firsts_n, .inl o_firsts_f)), (q_o_changes, .inl (cI, o_changes_n, .inl o_changes_f))] := hD
  refine lv_iconst (v := 1) hx hb d_Mod_alarm_12 (by decide) ?_
  refine lv_iconst (v := 1) hx hb d_Mod_alarm_13 (by decide) ?_
  obtain ⟨⟨v2, u2_0⟩, hu2, h⟩ := pu_bd h
  try dsimp only at h
  refine cc_V (As := [.int v1, .int 1, .int 1]) (rest := []) ⟨hx, hb, hml, hown, hts⟩ (c_Mod_goes l dC dI cI cJ cZ q_o q_o_former q_o_later q_o_charts q_o_lows q_o_highs q_o_firsts q_o_changes q_o_dates q_o_kept v1 1 1 o_thrown o_width o_height o_repeats o_wide o_floor o_across o_down o_sum o_many o_above o_below o_marked o_spots o_days v2 u2_0 hu2) (cwV 3 hts (gV k_697 k_699 kp_16 k_9 k_700 rfl) rfl rfl rfl hdV_Mod_goes ⟨Nat.le_of_ble_eq_true rfl, Nat.le_of_ble_eq_true rfl⟩) hK hN hP hD hS hA [0] [1, 2] (w0 := [(q_o, .inr (7, [.int o_thrown, .int o_width, .int o_height, .ref q_o_former, .ref q_o_later, .ref q_o_charts, .ref q_o_lows, .ref q_o_highs, .int o_repeats, .int o_wide, .int o_floor, .int o_across, .int o_down, .long o_sum, .long o_many, .long o_above, .long o_below, .ref q_o_firsts, .ref q_o_changes, .int o_marked, .int o_spots, .int o_days, .ref q_o_dates, .ref q_o_kept]))]) (wr := [(q_o_firsts, .inl (cI, o_firsts_n, .inl o_firsts_f)), (q_o_changes, .inl (cI, o_changes_n, .inl o_changes_f))]) rfl rfl (by decide) (by decide) (by decide) 7 rfl rfl rfl hl.1 rfl (Nat.le_of_ble_eq_true rfl) d_Mod_alarm_14 ⟨Nat.le_of_ble_eq_true rfl, Nat.le_of_ble_eq_true rfl⟩ (fun w1 H locs hw1 hP hD hS => ?_)
  subst hw1
  have hP : va_P (dC, dI) vwCl [(q_o_firsts, .inl (cI, o_firsts_n, .inl o_firsts_f)), (q_o_changes, .inl (cI, o_changes_n, .inl o_changes_f)), (q_o, .inr (7, [.int u2_0, .int o_width, .int o_height, .ref q_o_former, .ref q_o_later, .ref q_o_charts, .ref q_o_lows, .ref q_o_highs, .int o_repeats, .int o_wide, .int o_floor, .int o_across, .int o_down, .long o_sum, .long o_many, .long o_above, .long o_below, .ref q_o_firsts, .ref q_o_changes, .int o_marked, .int o_spots, .int o_days, .ref q_o_dates, .ref q_o_kept]))] H := hP
  have hD : va_D A [(q_o_firsts, .inl (cI, o_firsts_n, .inl o_firsts_f)), (q_o_changes, .inl (cI, o_changes_n, .inl o_changes_f)), (q_o, .inr (7, [.int u2_0, .int o_width, .int o_height, .ref q_o_former, .ref q_o_later, .ref q_o_charts, .ref q_o_lows, .ref q_o_highs, .int o_repeats, .int o_wide, .int o_floor, .int o_across, .int o_down, .long o_sum, .long o_many, .long o_above, .long o_below, .ref q_o_firsts, .ref q_o_changes, .int o_marked, .int o_spots, .int o_days, .ref q_o_dates, .ref q_o_kept]))] := hD
  refine lv_if_ne (tgt := 22) hx hb d_Mod_alarm_17 (by decide) (fun hc => ?_) (fun hc => ?_)
  · have h := pu_f hc h
    refine lv_iload_n hx hb d_Mod_alarm_22 rfl (lv_at hl 1 rfl) ?_
    refine lv_iconst (v := 1) hx hb d_Mod_alarm_23 (by decide) ?_
    refine lv_iadd hx hb d_Mod_alarm_24 ?_
    refine lv_istore (lv' := [(4, .int (a1 + 1)), (0, .ref q_o), (1, .int a1), (2, .int a2), (3, .int a3)]) hx hb d_Mod_alarm_25 hl (by decide) rfl (fun ls hl => ?_)
    obtain ⟨e_3, he_3, hx_3⟩ := pu_bd h
    obtain ⟨n_3, hn_3⟩ := pu_loop_it he_3
    have K_3 : ∀ (y4_7 : Int32) (H : Heap) (locs : List Loc) (ls : Array Slot), e_3 = .inl y4_7 → lv_has ls 6 [(4, .int y4_7), (0, .ref q_o), (1, .int a1), (2, .int a2), (3, .int a3)] → va_P (dC, dI) vwCl [(q_o_firsts, .inl (cI, o_firsts_n, .inl o_firsts_f)), (q_o_changes, .inl (cI, o_changes_n, .inl o_changes_f)), (q_o, .inr (7, [.int u2_0, .int o_width, .int o_height, .ref q_o_former, .ref q_o_later, .ref q_o_charts, .ref q_o_lows, .ref q_o_highs, .int o_repeats, .int o_wide, .int o_floor, .int o_across, .int o_down, .long o_sum, .long o_many, .long o_above, .long o_below, .ref q_o_firsts, .ref q_o_changes, .int o_marked, .int o_spots, .int o_days, .ref q_o_dates, .ref q_o_kept]))] H → va_D A [(q_o_firsts, .inl (cI, o_firsts_n, .inl o_firsts_f)), (q_o_changes, .inl (cI, o_changes_n, .inl o_changes_f)), (q_o, .inr (7, [.int u2_0, .int o_width, .int o_height, .ref q_o_former, .ref q_o_later, .ref q_o_charts, .ref q_o_lows, .ref q_o_highs, .int o_repeats, .int o_wide, .int o_floor, .int o_across, .int o_down, .long o_sum, .long o_many, .long o_above, .long o_below, .ref q_o_firsts, .ref q_o_changes, .int o_marked, .int o_spots, .int o_days, .ref q_o_dates, .ref q_o_kept]))] → va_S A s.heap H locs → W p l e rm_Mod_alarm s m args below meth c H locs 0 0 Q (F0 m 78 ls []) := by
      intro y4_7 H locs ls he hl hP hD hS
      have h := hx_3
      rw [he] at h
      try dsimp only at h
      refine lv_iconst (v := (-1)) hx hb d_Mod_alarm_78 (by decide) ?_
      cases h
      refine W.widen (k := 0) (n := 0) (Nat.le_of_ble_eq_true rfl) (Nat.le_of_ble_eq_true rfl) ?_
      exact RT 79 ls H locs _ d_Mod_alarm_79 (Or.inr (Or.inl ⟨rfl, _, rfl⟩)) rfl (hP.sub [2, 0, 1] rfl) (hD.sub [2, 0, 1] (by decide) rfl) hS
    have L_3 : ∀ (n : Nat) (x4_4 : Int32) (H : Heap) (locs : List Loc) (ls : Array Slot), pu_it (p_Mod_alarm_L3 a2 a3 o_width o_height o_repeats o_wide o_floor o_across o_down o_sum o_many o_above o_below o_marked o_spots o_days o_firsts_n o_firsts_f o_changes_n o_changes_f u2_0) n x4_4 = some e_3 → lv_has ls 6 [(4, .int x4_4), (0, .ref q_o), (1, .int a1), (2, .int a2), (3, .int a3)] → va_P (dC, dI) vwCl [(q_o_firsts, .inl (cI, o_firsts_n, .inl o_firsts_f)), (q_o_changes, .inl (cI, o_changes_n, .inl o_changes_f)), (q_o, .inr (7, [.int u2_0, .int o_width, .int o_height, .ref q_o_former, .ref q_o_later, .ref q_o_charts, .ref q_o_lows, .ref q_o_highs, .int o_repeats, .int o_wide, .int o_floor, .int o_across, .int o_down, .long o_sum, .long o_many, .long o_above, .long o_below, .ref q_o_firsts, .ref q_o_changes, .int o_marked, .int o_spots, .int o_days, .ref q_o_dates, .ref q_o_kept]))] H → va_D A [(q_o_firsts, .inl (cI, o_firsts_n, .inl o_firsts_f)), (q_o_changes, .inl (cI, o_changes_n, .inl o_changes_f)), (q_o, .inr (7, [.int u2_0, .int o_width, .int o_height, .ref q_o_former, .ref q_o_later, .ref q_o_charts, .ref q_o_lows, .ref q_o_highs, .int o_repeats, .int o_wide, .int o_floor, .int o_across, .int o_down, .long o_sum, .long o_many, .long o_above, .long o_below, .ref q_o_firsts, .ref q_o_changes, .int o_marked, .int o_spots, .int o_days, .ref q_o_dates, .ref q_o_kept]))] → va_S A s.heap H locs → W p l e rm_Mod_alarm s m args below meth c H locs 0 0 Q (F0 m 27 ls []) := by
      intro n
      induction n with
      | zero => intro x4_4 H locs ls hn; exact (pu_it_0 hn).elim
      | succ n ih =>
        intro x4_4 H locs ls hn hl hP hD hS
        obtain ⟨r_3, h, hr_3⟩ := pu_it_succ hn
        unfold p_Mod_alarm_L3 at h
        try dsimp only at h
        refine lv_iload hx hb d_Mod_alarm_27 (lv_at hl 0 rfl) ?_
        refine lv_aload_n hx hb d_Mod_alarm_29 rfl (lv_at hl 1 rfl) ?_
        refine va_get (D := (dC, dI)) (ci := 7) (v := .int o_spots) (C := R_Mod) (T := F_Mod) (N := 24) hx hb hts i_Mod hown hK hP 2 rfl rfl 20 (by decide) (hts _ k_628) (fun _ h9 => h9) rfl d_Mod_alarm_30 ?_
        refine lv_icmp_ge (tgt := 78) hx hb d_Mod_alarm_33 (by decide) (fun hc => ?_) (fun hc => ?_)
        · have h := pu_t hc h
          cases h
          exact K_3 x4_4 H locs ls hr_3.symm (lv_sub hl [0, 1, 2, 3, 4] rfl) (hP.sub [0, 1, 2] rfl) (hD.sub [0, 1, 2] (by decide) rfl) hS
        · have h := pu_f hc h
          refine lv_aload_n hx hb d_Mod_alarm_36 rfl (lv_at hl 1 rfl) ?_
          refine lv_iload hx hb d_Mod_alarm_37 (lv_at hl 0 rfl) ?_
          refine lv_bipush (v := 6) hx hb d_Mod_alarm_39 (by decide) ?_
          obtain ⟨v5, hu5, h⟩ := pu_bd h
          refine cc_V (As := [.int x4_4, .int 6]) (rest := []) ⟨hx, hb, hml, hown, hts⟩ (c_Mod_numbers l dC dI cI cJ cZ q_o q_o_former q_o_later q_o_charts q_o_lows q_o_highs q_o_firsts q_o_changes q_o_dates q_o_kept x4_4 6 u2_0 o_width o_height o_repeats o_wide o_floor o_across o_down o_sum o_many o_above o_below o_marked o_spots o_days o_firsts_n o_firsts_f o_changes_n o_changes_f v5 hu5) (cwV 2 hts (gV k_785 k_787 kp_26 k_9 k_788 rfl) rfl rfl rfl hdV_Mod_numbers ⟨Nat.le_of_ble_eq_true rfl, Nat.le_of_ble_eq_true rfl⟩) hK hN hP hD hS hA [2, 0, 1] [] (w0 := [(q_o, .inr (7, [.int u2_0, .int o_width, .int o_height, .ref q_o_former, .ref q_o_later, .ref q_o_charts, .ref q_o_lows, .ref q_o_highs, .int o_repeats, .int o_wide, .int o_floor, .int o_across, .int o_down, .long o_sum, .long o_many, .long o_above, .long o_below, .ref q_o_firsts, .ref q_o_changes, .int o_marked, .int o_spots, .int o_days, .ref q_o_dates, .ref q_o_kept])), (q_o_firsts, .inl (cI, o_firsts_n, .inl o_firsts_f)), (q_o_changes, .inl (cI, o_changes_n, .inl o_changes_f))]) (wr := []) rfl rfl (by decide) (by decide) (by decide) 7 rfl rfl rfl hl.1 rfl (Nat.le_of_ble_eq_true rfl) d_Mod_alarm_41 ⟨Nat.le_of_ble_eq_true rfl, Nat.le_of_ble_eq_true rfl⟩ (fun w1 H locs hw1 hP hD hS => ?_)
          subst hw1
          have hP : va_P (dC, dI) vwCl [(q_o, .inr (7, [.int u2_0, .int o_width, .int o_height, .ref q_o_former, .ref q_o_later, .ref q_o_charts, .ref q_o_lows, .ref q_o_highs, .int o_repeats, .int o_wide, .int o_floor, .int o_across, .int o_down, .long o_sum, .long o_many, .long o_above, .long o_below, .ref q_o_firsts, .ref q_o_changes, .int o_marked, .int o_spots, .int o_days, .ref q_o_dates, .ref q_o_kept])), (q_o_firsts, .inl (cI, o_firsts_n, .inl o_firsts_f)), (q_o_changes, .inl (cI, o_changes_n, .inl o_changes_f))] H := hP
          have hD : va_D A [(q_o, .inr (7, [.int u2_0, .int o_width, .int o_height, .ref q_o_former, .ref q_o_later, .ref q_o_charts, .ref q_o_lows, .ref q_o_highs, .int o_repeats, .int o_wide, .int o_floor, .int o_across, .int o_down, .long o_sum, .long o_many, .long o_above, .long o_below, .ref q_o_firsts, .ref q_o_changes, .int o_marked, .int o_spots, .int o_days, .ref q_o_dates, .ref q_o_kept])), (q_o_firsts, .inl (cI, o_firsts_n, .inl o_firsts_f)), (q_o_changes, .inl (cI, o_changes_n, .inl o_changes_f))] := hD
          refine lv_istore (lv' := [(5, .int v5), (4, .int x4_4), (0, .ref q_o), (1, .int a1), (2, .int a2), (3, .int a3)]) hx hb d_Mod_alarm_44 hl (by decide) rfl (fun ls hl => ?_)
          refine lv_aload_n hx hb d_Mod_alarm_46 rfl (lv_at hl 2 rfl) ?_
          refine lv_iload hx hb d_Mod_alarm_47 (lv_at hl 1 rfl) ?_
          refine lv_iconst (v := 1) hx hb d_Mod_alarm_49 (by decide) ?_
          obtain ⟨v6, hu6, h⟩ := pu_bd h
          refine cc_V (As := [.int x4_4, .int 1]) (rest := []) ⟨hx, hb, hml, hown, hts⟩ (c_Mod_numbers l dC dI cI cJ cZ q_o q_o_former q_o_later q_o_charts q_o_lows q_o_highs q_o_firsts q_o_changes q_o_dates q_o_kept x4_4 1 u2_0 o_width o_height o_repeats o_wide o_floor o_across o_down o_sum o_many o_above o_below o_marked o_spots o_days o_firsts_n o_firsts_f o_changes_n o_changes_f v6 hu6) (cwV 2 hts (gV k_785 k_787 kp_26 k_9 k_788 rfl) rfl rfl rfl hdV_Mod_numbers ⟨Nat.le_of_ble_eq_true rfl, Nat.le_of_ble_eq_true rfl⟩) hK hN hP hD hS hA [0, 1, 2] [] (w0 := [(q_o, .inr (7, [.int u2_0, .int o_width, .int o_height, .ref q_o_former, .ref q_o_later, .ref q_o_charts, .ref q_o_lows, .ref q_o_highs, .int o_repeats, .int o_wide, .int o_floor, .int o_across, .int o_down, .long o_sum, .long o_many, .long o_above, .long o_below, .ref q_o_firsts, .ref q_o_changes, .int o_marked, .int o_spots, .int o_days, .ref q_o_dates, .ref q_o_kept])), (q_o_firsts, .inl (cI, o_firsts_n, .inl o_firsts_f)), (q_o_changes, .inl (cI, o_changes_n, .inl o_changes_f))]) (wr := []) rfl rfl (by decide) (by decide) (by decide) 7 rfl rfl rfl hl.1 rfl (Nat.le_of_ble_eq_true rfl) d_Mod_alarm_50 ⟨Nat.le_of_ble_eq_true rfl, Nat.le_of_ble_eq_true rfl⟩ (fun w1 H locs hw1 hP hD hS => ?_)
          subst hw1
          have hP : va_P (dC, dI) vwCl [(q_o, .inr (7, [.int u2_0, .int o_width, .int o_height, .ref q_o_former, .ref q_o_later, .ref q_o_charts, .ref q_o_lows, .ref q_o_highs, .int o_repeats, .int o_wide, .int o_floor, .int o_across, .int o_down, .long o_sum, .long o_many, .long o_above, .long o_below, .ref q_o_firsts, .ref q_o_changes, .int o_marked, .int o_spots, .int o_days, .ref q_o_dates, .ref q_o_kept])), (q_o_firsts, .inl (cI, o_firsts_n, .inl o_firsts_f)), (q_o_changes, .inl (cI, o_changes_n, .inl o_changes_f))] H := hP
          have hD : va_D A [(q_o, .inr (7, [.int u2_0, .int o_width, .int o_height, .ref q_o_former, .ref q_o_later, .ref q_o_charts, .ref q_o_lows, .ref q_o_highs, .int o_repeats, .int o_wide, .int o_floor, .int o_across, .int o_down, .long o_sum, .long o_many, .long o_above, .long o_below, .ref q_o_firsts, .ref q_o_changes, .int o_marked, .int o_spots, .int o_days, .ref q_o_dates, .ref q_o_kept])), (q_o_firsts, .inl (cI, o_firsts_n, .inl o_firsts_f)), (q_o_changes, .inl (cI, o_changes_n, .inl o_changes_f))] := hD
          refine lv_iload_n hx hb d_Mod_alarm_53 rfl (lv_at hl 4 rfl) ?_
          refine lv_icmp_gt (tgt := 69) hx hb d_Mod_alarm_54 (by decide) (fun hc => ?_) (fun hc => ?_)
          · have h := pu_t hc h
            refine lv_iload hx hb d_Mod_alarm_69 (lv_at hl 1 rfl) ?_
            cases h
            have hq := hr_3
            unfold pu_k at hq
            try dsimp only at hq
            subst hq
            have h := hx_3
            try dsimp only at h
            cases h
            refine W.widen (k := 0) (n := 0) (Nat.le_of_ble_eq_true rfl) (Nat.le_of_ble_eq_true rfl) ?_
            exact RT 71 ls H locs _ d_Mod_alarm_71 (Or.inr (Or.inl ⟨rfl, _, rfl⟩)) rfl (hP.sub [0, 1, 2] rfl) (hD.sub [0, 1, 2] (by decide) rfl) hS
          · have h := pu_f hc h
            refine lv_iload hx hb d_Mod_alarm_57 (lv_at hl 0 rfl) ?_
            refine lv_iconst (v := (-1)) hx hb d_Mod_alarm_59 (by decide) ?_
            refine lv_icmp_eq (tgt := 72) hx hb d_Mod_alarm_60 (by decide) (fun hc => ?_) (fun hc => ?_)
            · have h := pu_t hc h
              refine lv_iinc (v := (x4_4 + 1)) (lv' := [(4, .int (x4_4 + 1)), (5, .int v5), (0, .ref q_o), (1, .int a1), (2, .int a2), (3, .int a3)]) hx hb d_Mod_alarm_72 hl (k := 1) rfl rfl (by decide) rfl (fun ls hl => ?_)
              refine lv_goto (tgt := 27) hx hb d_Mod_alarm_75 (by decide) ?_
              cases h
              exact ih (x4_4 + 1) H locs ls hr_3 (lv_sub hl [0, 2, 3, 4, 5] rfl) (hP.sub [1, 2, 0] rfl) (hD.sub [1, 2, 0] (by decide) rfl) hS
            · have h := pu_f hc h
              refine lv_iload hx hb d_Mod_alarm_63 (lv_at hl 0 rfl) ?_
              refine lv_iload_n hx hb d_Mod_alarm_65 rfl (lv_at hl 5 rfl) ?_
              refine lv_icmp_lt (tgt := 72) hx hb d_Mod_alarm_66 (by decide) (fun hc => ?_) (fun hc => ?_)
              · have h := pu_t hc h
                refine lv_iinc (v := (x4_4 + 1)) (lv' := [(4, .int (x4_4 + 1)), (5, .int v5), (0, .ref q_o), (1, .int a1), (2, .int a2), (3, .int a3)]) hx hb d_Mod_alarm_72 hl (k := 1) rfl rfl (by decide) rfl (fun ls hl => ?_)
                refine lv_goto (tgt := 27) hx hb d_Mod_alarm_75 (by decide) ?_
                cases h
                exact ih (x4_4 + 1) H locs ls hr_3 (lv_sub hl [0, 2, 3, 4, 5] rfl) (hP.sub [1, 2, 0] rfl) (hD.sub [1, 2, 0] (by decide) rfl) hS
              · have h := pu_f hc h
                refine lv_iload hx hb d_Mod_alarm_69 (lv_at hl 1 rfl) ?_
                cases h
                have hq := hr_3
                unfold pu_k at hq
                try dsimp only at hq
                subst hq
                have h := hx_3
                try dsimp only at h
                cases h
                refine W.widen (k := 0) (n := 0) (Nat.le_of_ble_eq_true rfl) (Nat.le_of_ble_eq_true rfl) ?_
                exact RT 71 ls H locs _ d_Mod_alarm_71 (Or.inr (Or.inl ⟨rfl, _, rfl⟩)) rfl (hP.sub [0, 1, 2] rfl) (hD.sub [0, 1, 2] (by decide) rfl) hS
    exact L_3 n_3 (a1 + 1) H locs ls hn_3 hl hP hD hS
  · have h := pu_t hc h
    refine lv_iconst (v := 0) hx hb d_Mod_alarm_20 (by decide) ?_
    cases h
    refine W.widen (k := 0) (n := 0) (Nat.le_of_ble_eq_true rfl) (Nat.le_of_ble_eq_true rfl) ?_
    exact RT 21 ls H locs _ d_Mod_alarm_21 (Or.inr (Or.inl ⟨rfl, _, rfl⟩)) rfl (hP.sub [2, 0, 1] rfl) (hD.sub [2, 0, 1] (by decide) rfl) hS

noncomputable def p_Mod_falseOnes (o_thrown : Int32) (o_width : Int32) (o_height : Int32) (o_repeats : Int32) (o_wide : Int32) (o_floor : Int32) (o_across : Int32) (o_down : Int32) (o_sum : Int64) (o_many : Int64) (o_above : Int64) (o_below : Int64) (o_marked : Int32) (o_spots : Int32) (o_days : Int32) : Option (Int32 × Int32) :=
  some (o_wide, 0)
set_option maxHeartbeats 4000000 in
set_option maxRecDepth 100000 in
theorem c_Mod_falseOnes (l : Launch) (dC : Nat → ClassId) (dI : Nat → Nat → Nat) (cI cJ cZ : ClassId) (q_o q_o_former q_o_later q_o_charts q_o_lows q_o_highs q_o_firsts q_o_changes q_o_dates q_o_kept : Nat) (o_thrown : Int32) (o_width : Int32) (o_height : Int32) (o_repeats : Int32) (o_wide : Int32) (o_floor : Int32) (o_across : Int32) (o_down : Int32) (o_sum : Int64) (o_many : Int64) (o_above : Int64) (o_below : Int64) (o_marked : Int32) (o_spots : Int32) (o_days : Int32) (r0 : Int32) (r1 : Int32) (h : p_Mod_falseOnes o_thrown o_width o_height o_repeats o_wide o_floor o_across o_down o_sum o_many o_above o_below o_marked o_spots o_days = some (r0, r1)) : ct l y_Mod_falseOnes w_Mod_falseOnes rm_Mod_falseOnes (dC, dI) [(cI, .int), (cJ, .long), (cZ, .boolean)] [.ref q_o] [(q_o, .inr (7, [.int o_thrown, .int o_width, .int o_height, .ref q_o_former, .ref q_o_later, .ref q_o_charts, .ref q_o_lows, .ref q_o_highs, .int o_repeats, .int o_wide, .int o_floor, .int o_across, .int o_down, .long o_sum, .long o_many, .long o_above, .long o_below, .ref q_o_firsts, .ref q_o_changes, .int o_marked, .int o_spots, .int o_days, .ref q_o_dates, .ref q_o_kept]))] (fun w => w = [(q_o, .inr (7, [.int r1, .int o_width, .int o_height, .ref q_o_former, .ref q_o_later, .ref q_o_charts, .ref q_o_lows, .ref q_o_highs, .int o_repeats, .int o_wide, .int o_floor, .int o_across, .int o_down, .long o_sum, .long o_many, .long o_above, .long o_below, .ref q_o_firsts, .ref q_o_changes, .int o_marked, .int o_spots, .int o_days, .ref q_o_dates, .ref q_o_kept]))]) (some (.int r0)) := by
  refine ct_of (cc := b_Mod_falseOnes) (maxL := 1) (ret := (some .int)) (lv := [(0, .ref q_o)]) (by decide) rfl rfl rfl ?_
  intro p e s m args below meth c A Q H locs hx hb hml hown hts hin hA hK hN hP hD hS RT ls hl
  unfold p_Mod_falseOnes at h
  refine lv_aload_n hx hb d_Mod_falseOnes_0 rfl (lv_at hl 0 rfl) ?_
  refine lv_iconst (v := 0) hx hb d_Mod_falseOnes_1 (by decide) ?_
  refine va_put (D := (dC, dI)) (ci := 7) (v := .int 0) (ty := .int) (C := R_Mod) (T := F_Mod) (N := 24) hx hb hts i_Mod t_Mod t_Mod_ok n_Mod hown hK hP hD hS 0 rfl rfl 0 (by decide) (hts _ k_608) (fun _ h9 => h9) rfl (by decide +kernel) rfl rfl (Nat.le_of_ble_eq_true rfl) d_Mod_falseOnes_2 (fun H locs hP hD hS => ?_)
  have hP : va_P (dC, dI) vwCl [(q_o, .inr (7, [.int 0, .int o_width, .int o_height, .ref q_o_former, .ref q_o_later, .ref q_o_charts, .ref q_o_lows, .ref q_o_highs, .int o_repeats, .int o_wide, .int o_floor, .int o_across, .int o_down, .long o_sum, .long o_many, .long o_above, .long o_below, .ref q_o_firsts, .ref q_o_changes, .int o_marked, .int o_spots, .int o_days, .ref q_o_dates, .ref q_o_kept]))] H := hP
  have hD : va_D A [(q_o, .inr (7, [.int 0, .int o_width, .int o_height, .ref q_o_former, .ref q_o_later, .ref q_o_charts, .ref q_o_lows, .ref q_o_highs, .int o_repeats, .int o_wide, .int o_floor, .int o_across, .int o_down, .long o_sum, .long o_many, .long o_above, .long o_below, .ref q_o_firsts, .ref q_o_changes, .int o_marked, .int o_spots, .int o_days, .ref q_o_dates, .ref q_o_kept]))] := hD
  refine lv_aload_n hx hb d_Mod_falseOnes_5 rfl (lv_at hl 0 rfl) ?_
  refine va_get (D := (dC, dI)) (ci := 7) (v := .int o_wide) (C := R_Mod) (T := F_Mod) (N := 24) hx hb hts i_Mod hown hK hP 0 rfl rfl 9 (by decide) (hts _ k_617) (fun _ h9 => h9) rfl d_Mod_falseOnes_6 ?_
  cases h
  refine W.widen (k := 0) (n := 0) (Nat.le_of_ble_eq_true rfl) (Nat.le_of_ble_eq_true rfl) ?_
  exact RT 9 ls H locs _ d_Mod_falseOnes_9 (Or.inr (Or.inl ⟨rfl, _, rfl⟩)) rfl (hP.sub [0] rfl) (hD.sub [0] (by decide) rfl) hS

noncomputable def p_Mod_day (a1 : Int32) (o_thrown : Int32) (o_width : Int32) (o_height : Int32) (o_repeats : Int32) (o_wide : Int32) (o_floor : Int32) (o_across : Int32) (o_down : Int32) (o_sum : Int64) (o_many : Int64) (o_above : Int64) (o_below : Int64) (o_marked : Int32) (o_spots : Int32) (o_days : Int32) (o_dates_n : Nat) (o_dates_f : Nat → Int32) (o_kept_n : Nat) (o_kept_f : Nat → Int32) : Option (Int32 × Int32 × Int32 × (Nat → Int32) × (Nat → Int32)) :=
  ((if o_days = 0 then some 1 else pu_gd (vp_in (o_days - 1) o_dates_n) ((if a1 ≤ (o_dates_f (o_days - 1).toNatClampNeg) then some 0 else some 1)))).bind (fun (j1_2 : Int32) => (p_Mod_within a1 0 10000).bind (fun (v3 : Int32) => ((if v3 = 0 then some 0 else (if j1_2 = 0 then some 0 else some 1))).bind (fun (j4_5 : Int32) => ((if 30 ≤ o_days then some 0 else some 1)).bind (fun (j6_7 : Int32) => (p_Mod_goes j4_5 j6_7 1 o_thrown o_width o_height o_repeats o_wide o_floor o_across o_down o_sum o_many o_above o_below o_marked o_spots o_days).bind (fun ((v8, u8_0) : Int32 × Int32) => (if v8 = 0 then some (0, u8_0, o_days, o_dates_f, o_kept_f) else pu_gd (vp_in o_days o_dates_n) (pu_gd (vp_in o_days o_kept_n) (some ((o_days + 1), u8_0, (o_days + 1), (upd o_dates_f o_days.toNatClampNeg a1), (upd o_kept_f o_days.toNatClampNeg o_marked))))))))))
set_option maxHeartbeats 4000000 in
set_option maxRecDepth 100000 in
theorem c_Mod_day (l : Launch) (dC : Nat → ClassId) (dI : Nat → Nat → Nat) (cI cJ cZ : ClassId) (q_o q_o_former q_o_later q_o_charts q_o_lows q_o_highs q_o_firsts q_o_changes q_o_dates q_o_kept : Nat) (a1 : Int32) (o_thrown : Int32) (o_width : Int32) (o_height : Int32) (o_repeats : Int32) (o_wide : Int32) (o_floor : Int32) (o_across : Int32) (o_down : Int32) (o_sum : Int64) (o_many : Int64) (o_above : Int64) (o_below : Int64) (o_marked : Int32) (o_spots : Int32) (o_days : Int32) (o_dates_n : Nat) (o_dates_f : Nat → Int32) (o_kept_n : Nat) (o_kept_f : Nat → Int32) (r0 : Int32) (r1 : Int32) (r2 : Int32) (r3 : Nat → Int32) (r4 : Nat → Int32) (h : p_Mod_day a1 o_thrown o_width o_height o_repeats o_wide o_floor o_across o_down o_sum o_many o_above o_below o_marked o_spots o_days o_dates_n o_dates_f o_kept_n o_kept_f = some (r0, r1, r2, r3, r4)) : ct l y_Mod_day w_Mod_day rm_Mod_day (dC, dI) [(cI, .int), (cJ, .long), (cZ, .boolean)] [.ref q_o, .int a1] [(q_o, .inr (7, [.int o_thrown, .int o_width, .int o_height, .ref q_o_former, .ref q_o_later, .ref q_o_charts, .ref q_o_lows, .ref q_o_highs, .int o_repeats, .int o_wide, .int o_floor, .int o_across, .int o_down, .long o_sum, .long o_many, .long o_above, .long o_below, .ref q_o_firsts, .ref q_o_changes, .int o_marked, .int o_spots, .int o_days, .ref q_o_dates, .ref q_o_kept])), (q_o_dates, .inl (cI, o_dates_n, .inl o_dates_f)), (q_o_kept, .inl (cI, o_kept_n, .inl o_kept_f))] (fun w => w = [(q_o, .inr (7, [.int r1, .int o_width, .int o_height, .ref q_o_former, .ref q_o_later, .ref q_o_charts, .ref q_o_lows, .ref q_o_highs, .int o_repeats, .int o_wide, .int o_floor, .int o_across, .int o_down, .long o_sum, .long o_many, .long o_above, .long o_below, .ref q_o_firsts, .ref q_o_changes, .int o_marked, .int o_spots, .int r2, .ref q_o_dates, .ref q_o_kept])), (q_o_dates, .inl (cI, o_dates_n, .inl r3)), (q_o_kept, .inl (cI, o_kept_n, .inl r4))]) (some (.int r0)) := by
  refine ct_of (cc := b_Mod_day) (maxL := 3) (ret := (some .int)) (lv := [(0, .ref q_o), (1, .int a1)]) (by decide) rfl rfl rfl ?_
  intro p e s m args below meth c A Q H locs hx hb hml hown hts hin hA hK hN hP hD hS RT ls hl
  unfold p_Mod_day at h
  refine lv_aload_n hx hb d_Mod_day_0 rfl (lv_at hl 0 rfl) ?_
  refine va_get (D := (dC, dI)) (ci := 7) (v := .int o_days) (C := R_Mod) (T := F_Mod) (N := 24) hx hb hts i_Mod hown hK hP 0 rfl rfl 21 (by decide) (hts _ k_629) (fun _ h9 => h9) rfl d_Mod_day_1 ?_
  obtain ⟨j_1, hj_1, hx_1⟩ := pu_bd h
  have J_1 : ∀ (j1_2 : Int32) (H : Heap) (locs : List Loc) (ls : Array Slot), j_1 = j1_2 → lv_has ls 3 [(0, .ref q_o), (1, .int a1)] → va_P (dC, dI) vwCl [(q_o, .inr (7, [.int o_thrown, .int o_width, .int o_height, .ref q_o_former, .ref q_o_later, .ref q_o_charts, .ref q_o_lows, .ref q_o_highs, .int o_repeats, .int o_wide, .int o_floor, .int o_across, .int o_down, .long o_sum, .long o_many, .long o_above, .long o_below, .ref q_o_firsts, .ref q_o_changes, .int o_marked, .int o_spots, .int o_days, .ref q_o_dates, .ref q_o_kept])), (q_o_dates, .inl (cI, o_dates_n, .inl o_dates_f)), (q_o_kept, .inl (cI, o_kept_n, .inl o_kept_f))] H → va_D A [(q_o, .inr (7, [.int o_thrown, .int o_width, .int o_height, .ref q_o_former, .ref q_o_later, .ref q_o_charts, .ref q_o_lows, .ref q_o_highs, .int o_repeats, .int o_wide, .int o_floor, .int o_across, .int o_down, .long o_sum, .long o_many, .long o_above, .long o_below, .ref q_o_firsts, .ref q_o_changes, .int o_marked, .int o_spots, .int o_days, .ref q_o_dates, .ref q_o_kept])), (q_o_dates, .inl (cI, o_dates_n, .inl o_dates_f)), (q_o_kept, .inl (cI, o_kept_n, .inl o_kept_f))] → va_S A s.heap H locs → W p l e rm_Mod_day s m args below meth c H locs 0 0 Q (F0 m 27 ls [.int j1_2]) := by
    intro j1_2 H locs ls he hl hP hD hS
    have h := hx_1
    rw [he] at h
    try dsimp only at h
    refine lv_istore_n (lv' := [(2, .int j1_2), (0, .ref q_o), (1, .int a1)]) hx hb d_Mod_day_27 rfl hl (by decide) rfl (fun ls hl => ?_)
    refine lv_aload_n hx hb d_Mod_day_28 rfl (lv_at hl 1 rfl) ?_
    refine lv_iload_n hx hb d_Mod_day_29 rfl (lv_at hl 2 rfl) ?_
    refine lv_iconst (v := 0) hx hb d_Mod_day_30 (by decide) ?_
    refine lv_sipush (v := 10000) hx hb d_Mod_day_31 (by decide) ?_
    obtain ⟨v3, hu3, h⟩ := pu_bd h
    refine cc_S (As := [.int a1, .int 0, .int 10000]) (rest := [.ref q_o]) ⟨hx, hb, hml, hown, hts⟩ (c_Mod_within l dC dI cI cJ cZ a1 0 10000 v3 hu3) (cwS 3 hts (gS k_694 k_695 k_9 k_696 rfl) rfl rfl rfl hdV_Mod_within ⟨Nat.le_of_ble_eq_true rfl, Nat.le_of_ble_eq_true rfl⟩) hK hN hP hD hS hA [] [0, 1, 2] (w0 := []) (wr := [(q_o, .inr (7, [.int o_thrown, .int o_width, .int o_height, .ref q_o_former, .ref q_o_later, .ref q_o_charts, .ref q_o_lows, .ref q_o_highs, .int o_repeats, .int o_wide, .int o_floor, .int o_across, .int o_down, .long o_sum, .long o_many, .long o_above, .long o_below, .ref q_o_firsts, .ref q_o_changes, .int o_marked, .int o_spots, .int o_days, .ref q_o_dates, .ref q_o_kept])), (q_o_dates, .inl (cI, o_dates_n, .inl o_dates_f)), (q_o_kept, .inl (cI, o_kept_n, .inl o_kept_f))]) rfl rfl (by decide) (by decide) (by decide) rfl hl.1 rfl (Nat.le_of_ble_eq_true rfl) d_Mod_day_34 ⟨Nat.le_of_ble_eq_true rfl, Nat.le_of_ble_eq_true rfl⟩ (fun w1 H locs hw1 hP hD hS => ?_)
    subst hw1
    have hP : va_P (dC, dI) vwCl [(q_o, .inr (7, [.int o_thrown, .int o_width, .int o_height, .ref q_o_former, .ref q_o_later, .ref q_o_charts, .ref q_o_lows, .ref q_o_highs, .int o_repeats, .int o_wide, .int o_floor, .int o_across, .int o_down, .long o_sum, .long o_many, .long o_above, .long o_below, .ref q_o_firsts, .ref q_o_changes, .int o_marked, .int o_spots, .int o_days, .ref q_o_dates, .ref q_o_kept])), (q_o_dates, .inl (cI, o_dates_n, .inl o_dates_f)), (q_o_kept, .inl (cI, o_kept_n, .inl o_kept_f))] H := hP
    have hD : va_D A [(q_o, .inr (7, [.int o_thrown, .int o_width, .int o_height, .ref q_o_former, .ref q_o_later, .ref q_o_charts, .ref q_o_lows, .ref q_o_highs, .int o_repeats, .int o_wide, .int o_floor, .int o_across, .int o_down, .long o_sum, .long o_many, .long o_above, .long o_below, .ref q_o_firsts, .ref q_o_changes, .int o_marked, .int o_spots, .int o_days, .ref q_o_dates, .ref q_o_kept])), (q_o_dates, .inl (cI, o_dates_n, .inl o_dates_f)), (q_o_kept, .inl (cI, o_kept_n, .inl o_kept_f))] := hD
    obtain ⟨j_4, hj_4, hx_4⟩ := pu_bd h
    have J_4 : ∀ (j4_5 : Int32) (H : Heap) (locs : List Loc) (ls : Array Slot), j_4 = j4_5 → lv_has ls 3 [(2, .int j1_2), (0, .ref q_o), (1, .int a1)] → va_P (dC, dI) vwCl [(q_o, .inr (7, [.int o_thrown, .int o_width, .int o_height, .ref q_o_former, .ref q_o_later, .ref q_o_charts, .ref q_o_lows, .ref q_o_highs, .int o_repeats, .int o_wide, .int o_floor, .int o_across, .int o_down, .long o_sum, .long o_many, .long o_above, .long o_below, .ref q_o_firsts, .ref q_o_changes, .int o_marked, .int o_spots, .int o_days, .ref q_o_dates, .ref q_o_kept])), (q_o_dates, .inl (cI, o_dates_n, .inl o_dates_f)), (q_o_kept, .inl (cI, o_kept_n, .inl o_kept_f))] H → va_D A [(q_o, .inr (7, [.int o_thrown, .int o_width, .int o_height, .ref q_o_former, .ref q_o_later, .ref q_o_charts, .ref q_o_lows, .ref q_o_highs, .int o_repeats, .int o_wide, .int o_floor, .int o_across, .int o_down, .long o_sum, .long o_many, .long o_above, .long o_below, .ref q_o_firsts, .ref q_o_changes, .int o_marked, .int o_spots, .int o_days, .ref q_o_dates, .ref q_o_kept])), (q_o_dates, .inl (cI, o_dates_n, .inl o_dates_f)), (q_o_kept, .inl (cI, o_kept_n, .inl o_kept_f))] → va_S A s.heap H locs → W p l e rm_Mod_day s m args below meth c H locs 0 0 Q (F0 m 49 ls [.int j4_5, .ref q_o]) := by
      intro j4_5 H locs ls he hl hP hD hS
      have h := hx_4
      rw [he] at h
      try dsimp only at h
      refine lv_aload_n hx hb d_Mod_day_49 rfl (lv_at hl 1 rfl) ?_
      refine va_get (D := (dC, dI)) (ci := 7) (v := .int o_days) (C := R_Mod) (T := F_Mod) (N := 24) hx hb hts i_Mod hown hK hP 0 rfl rfl 21 (by decide) (hts _ k_629) (fun _ h9 => h9) rfl d_Mod_day_50 ?_
      refine lv_bipush (v := 30) hx hb d_Mod_day_53 (by decide) ?_
      obtain ⟨j_6, hj_6, hx_6⟩ := pu_bd h
      have J_6 : ∀ (j6_7 : Int32) (H : Heap) (locs : List Loc) (ls : Array Slot), j_6 = j6_7 → lv_has ls 3 [(2, .int j1_2), (0, .ref q_o), (1, .int a1)] → va_P (dC, dI) vwCl [(q_o, .inr (7, [.int o_thrown, .int o_width, .int o_height, .ref q_o_former, .ref q_o_later, .ref q_o_charts, .ref q_o_lows, .ref q_o_highs, .int o_repeats, .int o_wide, .int o_floor, .int o_across, .int o_down, .long o_sum, .long o_many, .long o_above, .long o_below, .ref q_o_firsts, .ref q_o_changes, .int o_marked, .int o_spots, .int o_days, .ref q_o_dates, .ref q_o_kept])), (q_o_dates, .inl (cI, o_dates_n, .inl o_dates_f)), (q_o_kept, .inl (cI, o_kept_n, .inl o_kept_f))] H → va_D A [(q_o, .inr (7, [.int o_thrown, .int o_width, .int o_height, .ref q_o_former, .ref q_o_later, .ref q_o_charts, .ref q_o_lows, .ref q_o_highs, .int o_repeats, .int o_wide, .int o_floor, .int o_across, .int o_down, .long o_sum, .long o_many, .long o_above, .long o_below, .ref q_o_firsts, .ref q_o_changes, .int o_marked, .int o_spots, .int o_days, .ref q_o_dates, .ref q_o_kept])), (q_o_dates, .inl (cI, o_dates_n, .inl o_dates_f)), (q_o_kept, .inl (cI, o_kept_n, .inl o_kept_f))] → va_S A s.heap H locs → W p l e rm_Mod_day s m args below meth c H locs 0 0 Q (F0 m 63 ls [.int j6_7, .int j4_5, .ref q_o]) := by
        intro j6_7 H locs ls he hl hP hD hS
        have h := hx_6
        rw [he] at h
        try dsimp only at h
        refine lv_iconst (v := 1) hx hb d_Mod_day_63 (by decide) ?_
        obtain ⟨⟨v8, u8_0⟩, hu8, h⟩ := pu_bd h
        try dsimp only at h
        refine cc_V (As := [.int j4_5, .int j6_7, .int 1]) (rest := []) ⟨hx, hb, hml, hown, hts⟩ (c_Mod_goes l dC dI cI cJ cZ q_o q_o_former q_o_later q_o_charts q_o_lows q_o_highs q_o_firsts q_o_changes q_o_dates q_o_kept j4_5 j6_7 1 o_thrown o_width o_height o_repeats o_wide o_floor o_across o_down o_sum o_many o_above o_below o_marked o_spots o_days v8 u8_0 hu8) (cwV 3 hts (gV k_697 k_699 kp_16 k_9 k_700 rfl) rfl rfl rfl hdV_Mod_goes ⟨Nat.le_of_ble_eq_true rfl, Nat.le_of_ble_eq_true rfl⟩) hK hN hP hD hS hA [0] [1, 2] (w0 := [(q_o, .inr (7, [.int o_thrown, .int o_width, .int o_height, .ref q_o_former, .ref q_o_later, .ref q_o_charts, .ref q_o_lows, .ref q_o_highs, .int o_repeats, .int o_wide, .int o_floor, .int o_across, .int o_down, .long o_sum, .long o_many, .long o_above, .long o_below, .ref q_o_firsts, .ref q_o_changes, .int o_marked, .int o_spots, .int o_days, .ref q_o_dates, .ref q_o_kept]))]) (wr := [(q_o_dates, .inl (cI, o_dates_n, .inl o_dates_f)), (q_o_kept, .inl (cI, o_kept_n, .inl o_kept_f))]) rfl rfl (by decide) (by decide) (by decide) 7 rfl rfl rfl hl.1 rfl (Nat.le_of_ble_eq_true rfl) d_Mod_day_64 ⟨Nat.le_of_ble_eq_true rfl, Nat.le_of_ble_eq_true rfl⟩ (fun w1 H locs hw1 hP hD hS => ?_)
        subst hw1
        have hP : va_P (dC, dI) vwCl [(q_o_dates, .inl (cI, o_dates_n, .inl o_dates_f)), (q_o_kept, .inl (cI, o_kept_n, .inl o_kept_f)), (q_o, .inr (7, [.int u8_0, .int o_width, .int o_height, .ref q_o_former, .ref q_o_later, .ref q_o_charts, .ref q_o_lows, .ref q_o_highs, .int o_repeats, .int o_wide, .int o_floor, .int o_across, .int o_down, .long o_sum, .long o_many, .long o_above, .long o_below, .ref q_o_firsts, .ref q_o_changes, .int o_marked, .int o_spots, .int o_days, .ref q_o_dates, .ref q_o_kept]))] H := hP
        have hD : va_D A [(q_o_dates, .inl (cI, o_dates_n, .inl o_dates_f)), (q_o_kept, .inl (cI, o_kept_n, .inl o_kept_f)), (q_o, .inr (7, [.int u8_0, .int o_width, .int o_height, .ref q_o_former, .ref q_o_later, .ref q_o_charts, .ref q_o_lows, .ref q_o_highs, .int o_repeats, .int o_wide, .int o_floor, .int o_across, .int o_down, .long o_sum, .long o_many, .long o_above, .long o_below, .ref q_o_firsts, .ref q_o_changes, .int o_marked, .int o_spots, .int o_days, .ref q_o_dates, .ref q_o_kept]))] := hD
        refine lv_if_ne (tgt := 72) hx hb d_Mod_day_67 (by decide) (fun hc => ?_) (fun hc => ?_)
        · have h := pu_f hc h
          refine lv_aload_n hx hb d_Mod_day_72 rfl (lv_at hl 1 rfl) ?_
          refine va_get (D := (dC, dI)) (ci := 7) (v := .ref q_o_dates) (C := R_Mod) (T := F_Mod) (N := 24) hx hb hts i_Mod hown hK hP 2 rfl rfl 22 (by decide) (hts _ k_630) (fun _ h9 => h9) rfl d_Mod_day_73 ?_
          refine lv_aload_n hx hb d_Mod_day_76 rfl (lv_at hl 1 rfl) ?_
          refine va_get (D := (dC, dI)) (ci := 7) (v := .int o_days) (C := R_Mod) (T := F_Mod) (N := 24) hx hb hts i_Mod hown hK hP 2 rfl rfl 21 (by decide) (hts _ k_629) (fun _ h9 => h9) rfl d_Mod_day_77 ?_
          refine lv_iload_n hx hb d_Mod_day_80 rfl (lv_at hl 2 rfl) ?_
          obtain ⟨hg, h⟩ := pu_g h
          refine va_iast hx hb hK hP hD hS 0 0 rfl rfl hg d_Mod_day_81 (fun H locs hP hD hS => ?_)
          have hP : va_P (dC, dI) vwCl [(q_o_dates, .inl (cI, o_dates_n, .inl (upd o_dates_f o_days.toNatClampNeg a1))), (q_o_kept, .inl (cI, o_kept_n, .inl o_kept_f)), (q_o, .inr (7, [.int u8_0, .int o_width, .int o_height, .ref q_o_former, .ref q_o_later, .ref q_o_charts, .ref q_o_lows, .ref q_o_highs, .int o_repeats, .int o_wide, .int o_floor, .int o_across, .int o_down, .long o_sum, .long o_many, .long o_above, .long o_below, .ref q_o_firsts, .ref q_o_changes, .int o_marked, .int o_spots, .int o_days, .ref q_o_dates, .ref q_o_kept]))] H := hP
          have hD : va_D A [(q_o_dates, .inl (cI, o_dates_n, .inl (upd o_dates_f o_days.toNatClampNeg a1))), (q_o_kept, .inl (cI, o_kept_n, .inl o_kept_f)), (q_o, .inr (7, [.int u8_0, .int o_width, .int o_height, .ref q_o_former, .ref q_o_later, .ref q_o_charts, .ref q_o_lows, .ref q_o_highs, .int o_repeats, .int o_wide, .int o_floor, .int o_across, .int o_down, .long o_sum, .long o_many, .long o_above, .long o_below, .ref q_o_firsts, .ref q_o_changes, .int o_marked, .int o_spots, .int o_days, .ref q_o_dates, .ref q_o_kept]))] := hD
          refine lv_aload_n hx hb d_Mod_day_82 rfl (lv_at hl 1 rfl) ?_
          refine va_get (D := (dC, dI)) (ci := 7) (v := .ref q_o_kept) (C := R_Mod) (T := F_Mod) (N := 24) hx hb hts i_Mod hown hK hP 2 rfl rfl 23 (by decide) (hts _ k_631) (fun _ h9 => h9) rfl d_Mod_day_83 ?_
          refine lv_aload_n hx hb d_Mod_day_86 rfl (lv_at hl 1 rfl) ?_
          refine va_get (D := (dC, dI)) (ci := 7) (v := .int o_days) (C := R_Mod) (T := F_Mod) (N := 24) hx hb hts i_Mod hown hK hP 2 rfl rfl 21 (by decide) (hts _ k_629) (fun _ h9 => h9) rfl d_Mod_day_87 ?_
          refine lv_aload_n hx hb d_Mod_day_90 rfl (lv_at hl 1 rfl) ?_
          refine va_get (D := (dC, dI)) (ci := 7) (v := .int o_marked) (C := R_Mod) (T := F_Mod) (N := 24) hx hb hts i_Mod hown hK hP 2 rfl rfl 19 (by decide) (hts _ k_627) (fun _ h9 => h9) rfl d_Mod_day_91 ?_
          obtain ⟨hg, h⟩ := pu_g h
          refine va_iast hx hb hK hP hD hS 1 0 rfl rfl hg d_Mod_day_94 (fun H locs hP hD hS => ?_)
          have hP : va_P (dC, dI) vwCl [(q_o_dates, .inl (cI, o_dates_n, .inl (upd o_dates_f o_days.toNatClampNeg a1))), (q_o_kept, .inl (cI, o_kept_n, .inl (upd o_kept_f o_days.toNatClampNeg o_marked))), (q_o, .inr (7, [.int u8_0, .int o_width, .int o_height, .ref q_o_former, .ref q_o_later, .ref q_o_charts, .ref q_o_lows, .ref q_o_highs, .int o_repeats, .int o_wide, .int o_floor, .int o_across, .int o_down, .long o_sum, .long o_many, .long o_above, .long o_below, .ref q_o_firsts, .ref q_o_changes, .int o_marked, .int o_spots, .int o_days, .ref q_o_dates, .ref q_o_kept]))] H := hP
          have hD : va_D A [(q_o_dates, .inl (cI, o_dates_n, .inl (upd o_dates_f o_days.toNatClampNeg a1))), (q_o_kept, .inl (cI, o_kept_n, .inl (upd o_kept_f o_days.toNatClampNeg o_marked))), (q_o, .inr (7, [.int u8_0, .int o_width, .int o_height, .ref q_o_former, .ref q_o_later, .ref q_o_charts, .ref q_o_lows, .ref q_o_highs, .int o_repeats, .int o_wide, .int o_floor, .int o_across, .int o_down, .long o_sum, .long o_many, .long o_above, .long o_below, .ref q_o_firsts, .ref q_o_changes, .int o_marked, .int o_spots, .int o_days, .ref q_o_dates, .ref q_o_kept]))] := hD
          refine lv_aload_n hx hb d_Mod_day_95 rfl (lv_at hl 1 rfl) ?_
          refine lv_dup hx hb d_Mod_day_96 rfl ?_
          refine va_get (D := (dC, dI)) (ci := 7) (v := .int o_days) (C := R_Mod) (T := F_Mod) (N := 24) hx hb hts i_Mod hown hK hP 2 rfl rfl 21 (by decide) (hts _ k_629) (fun _ h9 => h9) rfl d_Mod_day_97 ?_
          refine lv_iconst (v := 1) hx hb d_Mod_day_100 (by decide) ?_
          refine lv_iadd hx hb d_Mod_day_101 ?_
          refine va_put (D := (dC, dI)) (ci := 7) (v := .int (o_days + 1)) (ty := .int) (C := R_Mod) (T := F_Mod) (N := 24) hx hb hts i_Mod t_Mod t_Mod_ok n_Mod hown hK hP hD hS 2 rfl rfl 21 (by decide) (hts _ k_629) (fun _ h9 => h9) rfl (by decide +kernel) rfl rfl (Nat.le_of_ble_eq_true rfl) d_Mod_day_102 (fun H locs hP hD hS => ?_)
          have hP : va_P (dC, dI) vwCl [(q_o_dates, .inl (cI, o_dates_n, .inl (upd o_dates_f o_days.toNatClampNeg a1))), (q_o_kept, .inl (cI, o_kept_n, .inl (upd o_kept_f o_days.toNatClampNeg o_marked))), (q_o, .inr (7, [.int u8_0, .int o_width, .int o_height, .ref q_o_former, .ref q_o_later, .ref q_o_charts, .ref q_o_lows, .ref q_o_highs, .int o_repeats, .int o_wide, .int o_floor, .int o_across, .int o_down, .long o_sum, .long o_many, .long o_above, .long o_below, .ref q_o_firsts, .ref q_o_changes, .int o_marked, .int o_spots, .int (o_days + 1), .ref q_o_dates, .ref q_o_kept]))] H := hP
          have hD : va_D A [(q_o_dates, .inl (cI, o_dates_n, .inl (upd o_dates_f o_days.toNatClampNeg a1))), (q_o_kept, .inl (cI, o_kept_n, .inl (upd o_kept_f o_days.toNatClampNeg o_marked))), (q_o, .inr (7, [.int u8_0, .int o_width, .int o_height, .ref q_o_former, .ref q_o_later, .ref q_o_charts, .ref q_o_lows, .ref q_o_highs, .int o_repeats, .int o_wide, .int o_floor, .int o_across, .int o_down, .long o_sum, .long o_many, .long o_above, .long o_below, .ref q_o_firsts, .ref q_o_changes, .int o_marked, .int o_spots, .int (o_days + 1), .ref q_o_dates, .ref q_o_kept]))] := hD
          refine lv_aload_n hx hb d_Mod_day_105 rfl (lv_at hl 1 rfl) ?_
          refine va_get (D := (dC, dI)) (ci := 7) (v := .int (o_days + 1)) (C := R_Mod) (T := F_Mod) (N := 24) hx hb hts i_Mod hown hK hP 2 rfl rfl 21 (by decide) (hts _ k_629) (fun _ h9 => h9) rfl d_Mod_day_106 ?_
          cases h
          refine W.widen (k := 0) (n := 0) (Nat.le_of_ble_eq_true rfl) (Nat.le_of_ble_eq_true rfl) ?_
          exact RT 109 ls H locs _ d_Mod_day_109 (Or.inr (Or.inl ⟨rfl, _, rfl⟩)) rfl (hP.sub [2, 0, 1] rfl) (hD.sub [2, 0, 1] (by decide) rfl) hS
        · have h := pu_t hc h
          refine lv_iconst (v := 0) hx hb d_Mod_day_70 (by decide) ?_
          cases h
          refine W.widen (k := 0) (n := 0) (Nat.le_of_ble_eq_true rfl) (Nat.le_of_ble_eq_true rfl) ?_
          exact RT 71 ls H locs _ d_Mod_day_71 (Or.inr (Or.inl ⟨rfl, _, rfl⟩)) rfl (hP.sub [2, 0, 1] rfl) (hD.sub [2, 0, 1] (by decide) rfl) hS
      have h := hj_6
      refine lv_icmp_ge (tgt := 62) hx hb d_Mod_day_55 (by decide) (fun hc => ?_) (fun hc => ?_)
      · have h := pu_t hc h
        refine lv_iconst (v := 0) hx hb d_Mod_day_62 (by decide) ?_
        exact J_6 0 H locs ls (Option.some.inj h).symm (lv_sub hl [0, 1, 2] rfl) (hP.sub [0, 1, 2] rfl) (hD.sub [0, 1, 2] (by decide) rfl) hS
      · have h := pu_f hc h
        refine lv_iconst (v := 1) hx hb d_Mod_day_58 (by decide) ?_
        refine lv_goto (tgt := 63) hx hb d_Mod_day_59 (by decide) ?_
        exact J_6 1 H locs ls (Option.some.inj h).symm (lv_sub hl [0, 1, 2] rfl) (hP.sub [0, 1, 2] rfl) (hD.sub [0, 1, 2] (by decide) rfl) hS
    have h := hj_4
    refine lv_if_eq (tgt := 48) hx hb d_Mod_day_37 (by decide) (fun hc => ?_) (fun hc => ?_)
    · have h := pu_t hc h
      refine lv_iconst (v := 0) hx hb d_Mod_day_48 (by decide) ?_
      exact J_4 0 H locs ls (Option.some.inj h).symm (lv_sub hl [0, 1, 2] rfl) (hP.sub [0, 1, 2] rfl) (hD.sub [0, 1, 2] (by decide) rfl) hS
    · have h := pu_f hc h
      refine lv_iload_n hx hb d_Mod_day_40 rfl (lv_at hl 0 rfl) ?_
      refine lv_if_eq (tgt := 48) hx hb d_Mod_day_41 (by decide) (fun hc => ?_) (fun hc => ?_)
      · have h := pu_t hc h
        refine lv_iconst (v := 0) hx hb d_Mod_day_48 (by decide) ?_
        exact J_4 0 H locs ls (Option.some.inj h).symm (lv_sub hl [0, 1, 2] rfl) (hP.sub [0, 1, 2] rfl) (hD.sub [0, 1, 2] (by decide) rfl) hS
      · have h := pu_f hc h
        refine lv_iconst (v := 1) hx hb d_Mod_day_44 (by decide) ?_
        refine lv_goto (tgt := 49) hx hb d_Mod_day_45 (by decide) ?_
        exact J_4 1 H locs ls (Option.some.inj h).symm (lv_sub hl [0, 1, 2] rfl) (hP.sub [0, 1, 2] rfl) (hD.sub [0, 1, 2] (by decide) rfl) hS
  have h := hj_1
  refine lv_if_eq (tgt := 22) hx hb d_Mod_day_4 (by decide) (fun hc => ?_) (fun hc => ?_)
  · have h := pu_t hc h
    refine lv_iconst (v := 1) hx hb d_Mod_day_22 (by decide) ?_
    refine lv_goto (tgt := 27) hx hb d_Mod_day_23 (by decide) ?_
    exact J_1 1 H locs ls (Option.some.inj h).symm (lv_sub hl [0, 1] rfl) (hP.sub [0, 1, 2] rfl) (hD.sub [0, 1, 2] (by decide) rfl) hS
  · have h := pu_f hc h
    refine lv_iload_n hx hb d_Mod_day_7 rfl (lv_at hl 1 rfl) ?_
    refine lv_aload_n hx hb d_Mod_day_8 rfl (lv_at hl 0 rfl) ?_
    refine va_get (D := (dC, dI)) (ci := 7) (v := .ref q_o_dates) (C := R_Mod) (T := F_Mod) (N := 24) hx hb hts i_Mod hown hK hP 0 rfl rfl 22 (by decide) (hts _ k_630) (fun _ h9 => h9) rfl d_Mod_day_9 ?_
    refine lv_aload_n hx hb d_Mod_day_12 rfl (lv_at hl 0 rfl) ?_
    refine va_get (D := (dC, dI)) (ci := 7) (v := .int o_days) (C := R_Mod) (T := F_Mod) (N := 24) hx hb hts i_Mod hown hK hP 0 rfl rfl 21 (by decide) (hts _ k_629) (fun _ h9 => h9) rfl d_Mod_day_13 ?_
    refine lv_iconst (v := 1) hx hb d_Mod_day_16 (by decide) ?_
    refine lv_isub hx hb d_Mod_day_17 ?_
    obtain ⟨hg, h⟩ := pu_g h
    refine va_iald hx hb hK hP 1 0 rfl rfl hg d_Mod_day_18 ?_
    refine lv_icmp_le (tgt := 26) hx hb d_Mod_day_19 (by decide) (fun hc => ?_) (fun hc => ?_)
    · have h := pu_t hc h
      refine lv_iconst (v := 0) hx hb d_Mod_day_26 (by decide) ?_
      exact J_1 0 H locs ls (Option.some.inj h).symm (lv_sub hl [0, 1] rfl) (hP.sub [0, 1, 2] rfl) (hD.sub [0, 1, 2] (by decide) rfl) hS
    · have h := pu_f hc h
      refine lv_iconst (v := 1) hx hb d_Mod_day_22 (by decide) ?_
      refine lv_goto (tgt := 27) hx hb d_Mod_day_23 (by decide) ?_
      exact J_1 1 H locs ls (Option.some.inj h).symm (lv_sub hl [0, 1] rfl) (hP.sub [0, 1, 2] rfl) (hD.sub [0, 1, 2] (by decide) rfl) hS

noncomputable def p_Mod_growth_L7 (o_dates_n : Nat) (o_dates_f : Nat → Int32) (o_kept_n : Nat) (o_kept_f : Nat → Int32) (x6_6 : Int32) : (Int64 × Int64 × Int32) → Option ((Int64 × Int64 × Int32) ⊕ (Int64 × Int64 × Int32)) := fun ((x2_8, x4_9, x7_10) : Int64 × Int64 × Int32) =>
  (if x6_6 ≤ x7_10 then some (.inr (x2_8, x4_9, x7_10)) else pu_gd (vp_in x6_6 o_dates_n) (pu_gd (vp_in x7_10 o_dates_n) (pu_gd (vp_in x6_6 o_kept_n) (pu_gd (vp_in x7_10 o_kept_n) (some (.inl ((x2_8 + ((((o_dates_f x6_6.toNatClampNeg) - (o_dates_f x7_10.toNatClampNeg)).toInt64) * (((o_kept_f x6_6.toNatClampNeg) - (o_kept_f x7_10.toNatClampNeg)).toInt64))), (x4_9 + ((((o_dates_f x6_6.toNatClampNeg) - (o_dates_f x7_10.toNatClampNeg)).toInt64) * (((o_dates_f x6_6.toNatClampNeg) - (o_dates_f x7_10.toNatClampNeg)).toInt64))), (x7_10 + 1))))))))
noncomputable def p_Mod_growth_L3 (o_days : Int32) (o_dates_n : Nat) (o_dates_f : Nat → Int32) (o_kept_n : Nat) (o_kept_f : Nat → Int32) : (Int64 × Int64 × Int32) → Option ((Int64 × Int64 × Int32) ⊕ (Int64 × Int64 × Int32)) := fun ((x2_4, x4_5, x6_6) : Int64 × Int64 × Int32) =>
  (if o_days ≤ x6_6 then some (.inr (x2_4, x4_5, x6_6)) else (pu_loop (p_Mod_growth_L7 o_dates_n o_dates_f o_kept_n o_kept_f x6_6) (x2_4, x4_5, 0)).bind (fun ((y2_11, y4_12, y7_13) : Int64 × Int64 × Int32) => some (.inl (y2_11, y4_12, (x6_6 + 1)))))
noncomputable def p_Mod_growth (a1 : Int32) (o_thrown : Int32) (o_width : Int32) (o_height : Int32) (o_repeats : Int32) (o_wide : Int32) (o_floor : Int32) (o_across : Int32) (o_down : Int32) (o_sum : Int64) (o_many : Int64) (o_above : Int64) (o_below : Int64) (o_marked : Int32) (o_spots : Int32) (o_days : Int32) (o_dates_n : Nat) (o_dates_f : Nat → Int32) (o_kept_n : Nat) (o_kept_f : Nat → Int32) : Option (Int64 × Int32) :=
  (p_Mod_within a1 0 1).bind (fun (v1 : Int32) => (p_Mod_goes v1 1 1 o_thrown o_width o_height o_repeats o_wide o_floor o_across o_down o_sum o_many o_above o_below o_marked o_spots o_days).bind (fun ((v2, u2_0) : Int32 × Int32) => (if v2 = 0 then some (0, u2_0) else (pu_loop (p_Mod_growth_L3 o_days o_dates_n o_dates_f o_kept_n o_kept_f) (0, 0, 0)).bind (fun ((y2_14, y4_15, y6_16) : Int64 × Int64 × Int32) => (if (lg_cmp y4_15 0) = 0 then some ((a1.toInt64), u2_0) else (p_Mod_divisor y2_14 y4_15).bind (fun (v17 : Int64) => (if a1 = 0 then pu_gd (¬ (v17 : Int64) = 0) (some ((y2_14 / v17), u2_0)) else pu_gd (¬ (v17 : Int64) = 0) (some ((y4_15 / v17), u2_0)))))))))
set_option maxHeartbeats 4000000 in
set_option maxRecDepth 100000 in
theorem c_Mod_growth (l : Launch) (dC : Nat → ClassId) (dI : Nat → Nat → Nat) (cI cJ cZ : ClassId) (q_o q_o_former q_o_later q_o_charts q_o_lows q_o_highs q_o_firsts q_o_changes q_o_dates q_o_kept : Nat) (a1 : Int32) (o_thrown : Int32) (o_width : Int32) (o_height : Int32) (o_repeats : Int32) (o_wide : Int32) (o_floor : Int32) (o_across : Int32) (o_down : Int32) (o_sum : Int64) (o_many : Int64) (o_above : Int64) (o_below : Int64) (o_marked : Int32) (o_spots : Int32) (o_days : Int32) (o_dates_n : Nat) (o_dates_f : Nat → Int32) (o_kept_n : Nat) (o_kept_f : Nat → Int32) (r0 : Int64) (r1 : Int32) (h : p_Mod_growth a1 o_thrown o_width o_height o_repeats o_wide o_floor o_across o_down o_sum o_many o_above o_below o_marked o_spots o_days o_dates_n o_dates_f o_kept_n o_kept_f = some (r0, r1)) : ct l y_Mod_growth w_Mod_growth rm_Mod_growth (dC, dI) [(cI, .int), (cJ, .long), (cZ, .boolean)] [.ref q_o, .int a1] [(q_o, .inr (7, [.int o_thrown, .int o_width, .int o_height, .ref q_o_former, .ref q_o_later, .ref q_o_charts, .ref q_o_lows, .ref q_o_highs, .int o_repeats, .int o_wide, .int o_floor, .int o_across, .int o_down, .long o_sum, .long o_many, .long o_above, .long o_below, .ref q_o_firsts, .ref q_o_changes, .int o_marked, .int o_spots, .int o_days, .ref q_o_dates, .ref q_o_kept])), (q_o_dates, .inl (cI, o_dates_n, .inl o_dates_f)), (q_o_kept, .inl (cI, o_kept_n, .inl o_kept_f))] (fun w => w = [(q_o, .inr (7, [.int r1, .int o_width, .int o_height, .ref q_o_former, .ref q_o_later, .ref q_o_charts, .ref q_o_lows, .ref q_o_highs, .int o_repeats, .int o_wide, .int o_floor, .int o_across, .int o_down, .long o_sum, .long o_many, .long o_above, .long o_below, .ref q_o_firsts, .ref q_o_changes, .int o_marked, .int o_spots, .int o_days, .ref q_o_dates, .ref q_o_kept])), (q_o_dates, .inl (cI, o_dates_n, .inl o_dates_f)), (q_o_kept, .inl (cI, o_kept_n, .inl o_kept_f))]) (some (.long r0)) := by
  refine ct_of (cc := b_Mod_growth) (maxL := 10) (ret := (some .long)) (lv := [(0, .ref q_o), (1, .int a1)]) (by decide) rfl rfl rfl ?_
  intro p e s m args below meth c A Q H locs hx hb hml hown hts hin hA hK hN hP hD hS RT ls hl
  unfold p_Mod_growth at h
  refine lv_aload_n hx hb d_Mod_growth_0 rfl (lv_at hl 0 rfl) ?_
  refine lv_iload_n hx hb d_Mod_growth_1 rfl (lv_at hl 1 rfl) ?_
  refine lv_iconst (v := 0) hx hb d_Mod_growth_2 (by decide) ?_
  refine lv_iconst (v := 1) hx hb d_Mod_growth_3 (by decide) ?_
  obtain ⟨v1, hu1, h⟩ := pu_bd h
  refine cc_S (As := [.int a1, .int 0, .int 1]) (rest := [.ref q_o]) ⟨hx, hb, hml, hown, hts⟩ (c_Mod_within l dC dI cI cJ cZ a1 0 1 v1 hu1) (cwS 3 hts (gS k_694 k_695 k_9 k_696 rfl) rfl rfl rfl hdV_Mod_within ⟨Nat.le_of_ble_eq_true rfl, Nat.le_of_ble_eq_true rfl⟩) hK hN hP hD hS hA [] [0, 1, 2] (w0 := []) (wr := [(q_o, .inr (7, [.int o_thrown, .int o_width, .int o_height, .ref q_o_former, .ref q_o_later, .ref q_o_charts, .ref q_o_lows, .ref q_o_highs, .int o_repeats, .int o_wide, .int o_floor, .int o_across, .int o_down, .long o_sum, .long o_many, .long o_above, .long o_below, .ref q_o_firsts, .ref q_o_changes, .int o_marked, .int o_spots, .int o_days, .ref q_o_dates, .ref q_o_kept])), (q_o_dates, .inl (cI, o_dates_n, .inl o_dates_f)), (q_o_kept, .inl (cI, o_kept_n, .inl o_kept_f))]) rfl rfl (by decide) (by decide) (by decide) rfl hl.1 rfl (Nat.le_of_ble_eq_true rfl) d_Mod_growth_4 ⟨Nat.le_of_ble_eq_true rfl, Nat.le_of_ble_eq_true rfl⟩ (fun w1 H locs hw1 hP hD hS => ?_)
  subst hw1
  have hP : va_P (dC, dI) vwCl [(q_o, .inr (7, [.int o_thrown, .int o_width, .int o_height, .ref q_o_former, .ref q_o_later, .ref q_o_charts, .ref q_o_lows, .ref q_o_highs, .int o_repeats, .int o_wide, .int o_floor, .int o_across, .int o_down, .long o_sum, .long o_many, .long o_above, .long o_below, .ref q_o_firsts, .ref q_o_changes, .int o_marked, .int o_spots, .int o_days, .ref q_o_dates, .ref q_o_kept])), (q_o_dates, .inl (cI, o_dates_n, .inl o_dates_f)), (q_o_kept, .inl (cI, o_kept_n, .inl o_kept_f))] H := hP
  have hD : va_D A [(q_o, .inr (7, [.int o_thrown, .int o_width, .int o_height, .ref q_o_former, .ref q_o_later, .ref q_o_charts, .ref q_o_lows, .ref q_o_highs, .int o_repeats, .int o_wide, .int o_floor, .int o_across, .int o_down, .long o_sum, .long o_many, .long o_above, .long o_below, .ref q_o_firsts, .ref q_o_changes, .int o_marked, .int o_spots, .int o_days, .ref q_o_dates, .ref q_o_kept])), (q_o_dates, .inl (cI, o_dates_n, .inl o_dates_f)), (q_o_kept, .inl (cI, o_kept_n, .inl o_kept_f))] := hD
  refine lv_iconst (v := 1) hx hb d_Mod_growth_7 (by decide) ?_
  refine lv_iconst (v := 1) hx hb d_Mod_growth_8 (by decide) ?_
  obtain ⟨⟨v2, u2_0⟩, hu2, h⟩ := pu_bd h
  try dsimp only at h
  refine cc_V (As := [.int v1, .int 1, .int 1]) (rest := []) ⟨hx, hb, hml, hown, hts⟩ (c_Mod_goes l dC dI cI cJ cZ q_o q_o_former q_o_later q_o_charts q_o_lows q_o_highs q_o_firsts q_o_changes q_o_dates q_o_kept v1 1 1 o_thrown o_width o_height o_repeats o_wide o_floor o_across o_down o_sum o_many o_above o_below o_marked o_spots o_days v2 u2_0 hu2) (cwV 3 hts (gV k_697 k_699 kp_16 k_9 k_700 rfl) rfl rfl rfl hdV_Mod_goes ⟨Nat.le_of_ble_eq_true rfl, Nat.le_of_ble_eq_true rfl⟩) hK hN hP hD hS hA [0] [1, 2] (w0 := [(q_o, .inr (7, [.int o_thrown, .int o_width, .int o_height, .ref q_o_former, .ref q_o_later, .ref q_o_charts, .ref q_o_lows, .ref q_o_highs, .int o_repeats, .int o_wide, .int o_floor, .int o_across, .int o_down, .long o_sum, .long o_many, .long o_above, .long o_below, .ref q_o_firsts, .ref q_o_changes, .int o_marked, .int o_spots, .int o_days, .ref q_o_dates, .ref q_o_kept]))]) (wr := [(q_o_dates, .inl (cI, o_dates_n, .inl o_dates_f)), (q_o_kept, .inl (cI, o_kept_n, .inl o_kept_f))]) rfl rfl (by decide) (by decide) (by decide) 7 rfl rfl rfl hl.1 rfl (Nat.le_of_ble_eq_true rfl) d_Mod_growth_9 ⟨Nat.le_of_ble_eq_true rfl, Nat.le_of_ble_eq_true rfl⟩ (fun w1 H locs hw1 hP hD hS => ?_)
  subst hw1
  have hP : va_P (dC, dI) vwCl [(q_o_dates, .inl (cI, o_dates_n, .inl o_dates_f)), (q_o_kept, .inl (cI, o_kept_n, .inl o_kept_f)), (q_o, .inr (7, [.int u2_0, .int o_width, .int o_height, .ref q_o_former, .ref q_o_later, .ref q_o_charts, .ref q_o_lows, .ref q_o_highs, .int o_repeats, .int o_wide, .int o_floor, .int o_across, .int o_down, .long o_sum, .long o_many, .long o_above, .long o_below, .ref q_o_firsts, .ref q_o_changes, .int o_marked, .int o_spots, .int o_days, .ref q_o_dates, .ref q_o_kept]))] H := hP
  have hD : va_D A [(q_o_dates, .inl (cI, o_dates_n, .inl o_dates_f)), (q_o_kept, .inl (cI, o_kept_n, .inl o_kept_f)), (q_o, .inr (7, [.int u2_0, .int o_width, .int o_height, .ref q_o_former, .ref q_o_later, .ref q_o_charts, .ref q_o_lows, .ref q_o_highs, .int o_repeats, .int o_wide, .int o_floor, .int o_across, .int o_down, .long o_sum, .long o_many, .long o_above, .long o_below, .ref q_o_firsts, .ref q_o_changes, .int o_marked, .int o_spots, .int o_days, .ref q_o_dates, .ref q_o_kept]))] := hD
  refine lv_if_ne (tgt := 17) hx hb d_Mod_growth_12 (by decide) (fun hc => ?_) (fun hc => ?_)
  · have h := pu_f hc h
    refine lv_lconst (v := 0) hx hb d_Mod_growth_17 (by decide) ?_
    refine lv_lstore_n (lv' := [(2, .long 0), (0, .ref q_o), (1, .int a1)]) hx hb d_Mod_growth_18 rfl hl (by decide) rfl (fun ls hl => ?_)
    refine lv_lconst (v := 0) hx hb d_Mod_growth_19 (by decide) ?_
    refine lv_lstore (lv' := [(4, .long 0), (2, .long 0), (0, .ref q_o), (1, .int a1)]) hx hb d_Mod_growth_20 hl (by decide) rfl (fun ls hl => ?_)
    refine lv_iconst (v := 0) hx hb d_Mod_growth_22 (by decide) ?_
    refine lv_istore (lv' := [(6, .int 0), (4, .long 0), (2, .long 0), (0, .ref q_o), (1, .int a1)]) hx hb d_Mod_growth_23 hl (by decide) rfl (fun ls hl => ?_)
    obtain ⟨e_3, he_3, hx_3⟩ := pu_bd h
    obtain ⟨n_3, hn_3⟩ := pu_loop_it he_3
    have K_3 : ∀ (y2_14 : Int64) (y4_15 : Int64) (y6_16 : Int32) (H : Heap) (locs : List Loc) (ls : Array Slot), e_3 = (y2_14, y4_15, y6_16) → lv_has ls 10 [(6, .int y6_16), (4, .long y4_15), (2, .long y2_14), (0, .ref q_o), (1, .int a1)] → va_P (dC, dI) vwCl [(q_o_dates, .inl (cI, o_dates_n, .inl o_dates_f)), (q_o_kept, .inl (cI, o_kept_n, .inl o_kept_f)), (q_o, .inr (7, [.int u2_0, .int o_width, .int o_height, .ref q_o_former, .ref q_o_later, .ref q_o_charts, .ref q_o_lows, .ref q_o_highs, .int o_repeats, .int o_wide, .int o_floor, .int o_across, .int o_down, .long o_sum, .long o_many, .long o_above, .long o_below, .ref q_o_firsts, .ref q_o_changes, .int o_marked, .int o_spots, .int o_days, .ref q_o_dates, .ref q_o_kept]))] H → va_D A [(q_o_dates, .inl (cI, o_dates_n, .inl o_dates_f)), (q_o_kept, .inl (cI, o_kept_n, .inl o_kept_f)), (q_o, .inr (7, [.int u2_0, .int o_width, .int o_height, .ref q_o_former, .ref q_o_later, .ref q_o_charts, .ref q_o_lows, .ref q_o_highs, .int o_repeats, .int o_wide, .int o_floor, .int o_across, .int o_down, .long o_sum, .long o_many, .long o_above, .long o_below, .ref q_o_firsts, .ref q_o_changes, .int o_marked, .int o_spots, .int o_days, .ref q_o_dates, .ref q_o_kept]))] → va_S A s.heap H locs → W p l e rm_Mod_growth s m args below meth c H locs 0 0 Q (F0 m 106 ls []) := by
      intro y2_14 y4_15 y6_16 H locs ls he hl hP hD hS
      have h := hx_3
      rw [he] at h
      try dsimp only at h
      refine lv_lload hx hb d_Mod_growth_106 (lv_at hl 1 rfl) ?_
      refine lv_lconst (v := 0) hx hb d_Mod_growth_108 (by decide) ?_
      refine W.lcmp hx hb d_Mod_growth_109 ?_
      refine lv_if_ne (tgt := 116) hx hb d_Mod_growth_110 (by decide) (fun hc => ?_) (fun hc => ?_)
      · have h := pu_f hc h
        refine lv_lload_n hx hb d_Mod_growth_116 rfl (lv_at hl 2 rfl) ?_
        refine lv_lload hx hb d_Mod_growth_117 (lv_at hl 1 rfl) ?_
        obtain ⟨v17, hu17, h⟩ := pu_bd h
        refine cc_S (As := [.long y2_14, .long y4_15]) (rest := []) ⟨hx, hb, hml, hown, hts⟩ (c_Mod_divisor l dC dI cI cJ cZ y2_14 y4_15 v17 hu17) (cwS 2 hts (gS k_741 k_742 k_9 k_743 rfl) rfl rfl rfl hdV_Mod_divisor ⟨Nat.le_of_ble_eq_true rfl, Nat.le_of_ble_eq_true rfl⟩) hK hN hP hD hS hA [] [0, 1, 2] (w0 := []) (wr := [(q_o_dates, .inl (cI, o_dates_n, .inl o_dates_f)), (q_o_kept, .inl (cI, o_kept_n, .inl o_kept_f)), (q_o, .inr (7, [.int u2_0, .int o_width, .int o_height, .ref q_o_former, .ref q_o_later, .ref q_o_charts, .ref q_o_lows, .ref q_o_highs, .int o_repeats, .int o_wide, .int o_floor, .int o_across, .int o_down, .long o_sum, .long o_many, .long o_above, .long o_below, .ref q_o_firsts, .ref q_o_changes, .int o_marked, .int o_spots, .int o_days, .ref q_o_dates, .ref q_o_kept]))]) rfl rfl (by decide) (by decide) (by decide) rfl hl.1 rfl (Nat.le_of_ble_eq_true rfl) d_Mod_growth_119 ⟨Nat.le_of_ble_eq_true rfl, Nat.le_of_ble_eq_true rfl⟩ (fun w1 H locs hw1 hP hD hS => ?_)
        subst hw1
        have hP : va_P (dC, dI) vwCl [(q_o_dates, .inl (cI, o_dates_n, .inl o_dates_f)), (q_o_kept, .inl (cI, o_kept_n, .inl o_kept_f)), (q_o, .inr (7, [.int u2_0, .int o_width, .int o_height, .ref q_o_former, .ref q_o_later, .ref q_o_charts, .ref q_o_lows, .ref q_o_highs, .int o_repeats, .int o_wide, .int o_floor, .int o_across, .int o_down, .long o_sum, .long o_many, .long o_above, .long o_below, .ref q_o_firsts, .ref q_o_changes, .int o_marked, .int o_spots, .int o_days, .ref q_o_dates, .ref q_o_kept]))] H := hP
        have hD : va_D A [(q_o_dates, .inl (cI, o_dates_n, .inl o_dates_f)), (q_o_kept, .inl (cI, o_kept_n, .inl o_kept_f)), (q_o, .inr (7, [.int u2_0, .int o_width, .int o_height, .ref q_o_former, .ref q_o_later, .ref q_o_charts, .ref q_o_lows, .ref q_o_highs, .int o_repeats, .int o_wide, .int o_floor, .int o_across, .int o_down, .long o_sum, .long o_many, .long o_above, .long o_below, .ref q_o_firsts, .ref q_o_changes, .int o_marked, .int o_spots, .int o_days, .ref q_o_dates, .ref q_o_kept]))] := hD
        refine lv_lstore (lv' := [(6, .long v17), (4, .long y4_15), (2, .long y2_14), (0, .ref q_o), (1, .int a1)]) hx hb d_Mod_growth_122 hl (by decide) rfl (fun ls hl => ?_)
        refine lv_iload_n hx hb d_Mod_growth_124 rfl (lv_at hl 4 rfl) ?_
        refine lv_if_ne (tgt := 135) hx hb d_Mod_growth_125 (by decide) (fun hc => ?_) (fun hc => ?_)
        · have h := pu_f hc h
          refine lv_lload hx hb d_Mod_growth_135 (lv_at hl 1 rfl) ?_
          refine lv_lload hx hb d_Mod_growth_137 (lv_at hl 0 rfl) ?_
          obtain ⟨hg, h⟩ := pu_g h
          refine lv_ldiv hx hb d_Mod_growth_139 hg ?_
          cases h
          refine W.widen (k := 0) (n := 0) (Nat.le_of_ble_eq_true rfl) (Nat.le_of_ble_eq_true rfl) ?_
          exact RT 140 ls H locs _ d_Mod_growth_140 (Or.inr (Or.inr (Or.inl ⟨rfl, _, rfl⟩))) rfl (hP.sub [2, 0, 1] rfl) (hD.sub [2, 0, 1] (by decide) rfl) hS
        · have h := pu_t hc h
          refine lv_lload_n hx hb d_Mod_growth_128 rfl (lv_at hl 2 rfl) ?_
          refine lv_lload hx hb d_Mod_growth_129 (lv_at hl 0 rfl) ?_
          obtain ⟨hg, h⟩ := pu_g h
          refine lv_ldiv hx hb d_Mod_growth_131 hg ?_
          refine lv_goto (tgt := 140) hx hb d_Mod_growth_132 (by decide) ?_
          cases h
          refine W.widen (k := 0) (n := 0) (Nat.le_of_ble_eq_true rfl) (Nat.le_of_ble_eq_true rfl) ?_
          exact RT 140 ls H locs _ d_Mod_growth_140 (Or.inr (Or.inr (Or.inl ⟨rfl, _, rfl⟩))) rfl (hP.sub [2, 0, 1] rfl) (hD.sub [2, 0, 1] (by decide) rfl) hS
      · have h := pu_t hc h
        refine lv_iload_n hx hb d_Mod_growth_113 rfl (lv_at hl 4 rfl) ?_
        refine lv_i2l hx hb d_Mod_growth_114 rfl ?_
        cases h
        refine W.widen (k := 0) (n := 0) (Nat.le_of_ble_eq_true rfl) (Nat.le_of_ble_eq_true rfl) ?_
        exact RT 115 ls H locs _ d_Mod_growth_115 (Or.inr (Or.inr (Or.inl ⟨rfl, _, rfl⟩))) rfl (hP.sub [2, 0, 1] rfl) (hD.sub [2, 0, 1] (by decide) rfl) hS
    have L_3 : ∀ (n : Nat) (x2_4 : Int64) (x4_5 : Int64) (x6_6 : Int32) (H : Heap) (locs : List Loc) (ls : Array Slot), pu_it (p_Mod_growth_L3 o_days o_dates_n o_dates_f o_kept_n o_kept_f) n (x2_4, x4_5, x6_6) = some e_3 → lv_has ls 10 [(6, .int x6_6), (4, .long x4_5), (2, .long x2_4), (0, .ref q_o), (1, .int a1)] → va_P (dC, dI) vwCl [(q_o_dates, .inl (cI, o_dates_n, .inl o_dates_f)), (q_o_kept, .inl (cI, o_kept_n, .inl o_kept_f)), (q_o, .inr (7, [.int u2_0, .int o_width, .int o_height, .ref q_o_former, .ref q_o_later, .ref q_o_charts, .ref q_o_lows, .ref q_o_highs, .int o_repeats, .int o_wide, .int o_floor, .int o_across, .int o_down, .long o_sum, .long o_many, .long o_above, .long o_below, .ref q_o_firsts, .ref q_o_changes, .int o_marked, .int o_spots, .int o_days, .ref q_o_dates, .ref q_o_kept]))] H → va_D A [(q_o_dates, .inl (cI, o_dates_n, .inl o_dates_f)), (q_o_kept, .inl (cI, o_kept_n, .inl o_kept_f)), (q_o, .inr (7, [.int u2_0, .int o_width, .int o_height, .ref q_o_former, .ref q_o_later, .ref q_o_charts, .ref q_o_lows, .ref q_o_highs, .int o_repeats, .int o_wide, .int o_floor, .int o_across, .int o_down, .long o_sum, .long o_many, .long o_above, .long o_below, .ref q_o_firsts, .ref q_o_changes, .int o_marked, .int o_spots, .int o_days, .ref q_o_dates, .ref q_o_kept]))] → va_S A s.heap H locs → W p l e rm_Mod_growth s m args below meth c H locs 0 0 Q (F0 m 25 ls []) := by
      intro n
      induction n with
      | zero => intro x2_4 x4_5 x6_6 H locs ls hn; exact (pu_it_0 hn).elim
      | succ n ih =>
        intro x2_4 x4_5 x6_6 H locs ls hn hl hP hD hS
        obtain ⟨r_3, h, hr_3⟩ := pu_it_succ hn
        unfold p_Mod_growth_L3 at h
        try dsimp only at h
        refine lv_iload hx hb d_Mod_growth_25 (lv_at hl 0 rfl) ?_
        refine lv_aload_n hx hb d_Mod_growth_27 rfl (lv_at hl 3 rfl) ?_
        refine va_get (D := (dC, dI)) (ci := 7) (v := .int o_days) (C := R_Mod) (T := F_Mod) (N := 24) hx hb hts i_Mod hown hK hP 2 rfl rfl 21 (by decide) (hts _ k_629) (fun _ h9 => h9) rfl d_Mod_growth_28 ?_
        refine lv_icmp_ge (tgt := 106) hx hb d_Mod_growth_31 (by decide) (fun hc => ?_) (fun hc => ?_)
        · have h := pu_t hc h
          cases h
          exact K_3 x2_4 x4_5 x6_6 H locs ls hr_3.symm (lv_sub hl [0, 1, 2, 3, 4] rfl) (hP.sub [0, 1, 2] rfl) (hD.sub [0, 1, 2] (by decide) rfl) hS
        · have h := pu_f hc h
          refine lv_iconst (v := 0) hx hb d_Mod_growth_34 (by decide) ?_
          refine lv_istore (lv' := [(7, .int 0), (6, .int x6_6), (4, .long x4_5), (2, .long x2_4), (0, .ref q_o), (1, .int a1)]) hx hb d_Mod_growth_35 hl (by decide) rfl (fun ls hl => ?_)
          obtain ⟨e_7, he_7, hx_7⟩ := pu_bd h
          obtain ⟨n_7, hn_7⟩ := pu_loop_it he_7
          have K_7 : ∀ (y2_11 : Int64) (y4_12 : Int64) (y7_13 : Int32) (H : Heap) (locs : List Loc) (ls : Array Slot), e_7 = (y2_11, y4_12, y7_13) → lv_has ls 10 [(7, .int y7_13), (6, .int x6_6), (4, .long y4_12), (2, .long y2_11), (0, .ref q_o), (1, .int a1)] → va_P (dC, dI) vwCl [(q_o_dates, .inl (cI, o_dates_n, .inl o_dates_f)), (q_o_kept, .inl (cI, o_kept_n, .inl o_kept_f)), (q_o, .inr (7, [.int u2_0, .int o_width, .int o_height, .ref q_o_former, .ref q_o_later, .ref q_o_charts, .ref q_o_lows, .ref q_o_highs, .int o_repeats, .int o_wide, .int o_floor, .int o_across, .int o_down, .long o_sum, .long o_many, .long o_above, .long o_below, .ref q_o_firsts, .ref q_o_changes, .int o_marked, .int o_spots, .int o_days, .ref q_o_dates, .ref q_o_kept]))] H → va_D A [(q_o_dates, .inl (cI, o_dates_n, .inl o_dates_f)), (q_o_kept, .inl (cI, o_kept_n, .inl o_kept_f)), (q_o, .inr (7, [.int u2_0, .int o_width, .int o_height, .ref q_o_former, .ref q_o_later, .ref q_o_charts, .ref q_o_lows, .ref q_o_highs, .int o_repeats, .int o_wide, .int o_floor, .int o_across, .int o_down, .long o_sum, .long o_many, .long o_above, .long o_below, .ref q_o_firsts, .ref q_o_changes, .int o_marked, .int o_spots, .int o_days, .ref q_o_dates, .ref q_o_kept]))] → va_S A s.heap H locs → W p l e rm_Mod_growth s m args below meth c H locs 0 0 Q (F0 m 100 ls []) := by
            intro y2_11 y4_12 y7_13 H locs ls he hl hP hD hS
            have h := hx_7
            rw [he] at h
            try dsimp only at h
            refine lv_iinc (v := (x6_6 + 1)) (lv' := [(6, .int (x6_6 + 1)), (7, .int y7_13), (4, .long y4_12), (2, .long y2_11), (0, .ref q_o), (1, .int a1)]) hx hb d_Mod_growth_100 hl (k := 1) rfl rfl (by decide) rfl (fun ls hl => ?_)
            refine lv_goto (tgt := 25) hx hb d_Mod_growth_103 (by decide) ?_
            cases h
            exact ih y2_11 y4_12 (x6_6 + 1) H locs ls hr_3 (lv_sub hl [0, 2, 3, 4, 5] rfl) (hP.sub [0, 1, 2] rfl) (hD.sub [0, 1, 2] (by decide) rfl) hS
          have L_7 : ∀ (n : Nat) (x2_8 : Int64) (x4_9 : Int64) (x7_10 : Int32) (H : Heap) (locs : List Loc) (ls : Array Slot), pu_it (p_Mod_growth_L7 o_dates_n o_dates_f o_kept_n o_kept_f x6_6) n (x2_8, x4_9, x7_10) = some e_7 → lv_has ls 10 [(7, .int x7_10), (6, .int x6_6), (4, .long x4_9), (2, .long x2_8), (0, .ref q_o), (1, .int a1)] → va_P (dC, dI) vwCl [(q_o_dates, .inl (cI, o_dates_n, .inl o_dates_f)), (q_o_kept, .inl (cI, o_kept_n, .inl o_kept_f)), (q_o, .inr (7, [.int u2_0, .int o_width, .int o_height, .ref q_o_former, .ref q_o_later, .ref q_o_charts, .ref q_o_lows, .ref q_o_highs, .int o_repeats, .int o_wide, .int o_floor, .int o_across, .int o_down, .long o_sum, .long o_many, .long o_above, .long o_below, .ref q_o_firsts, .ref q_o_changes, .int o_marked, .int o_spots, .int o_days, .ref q_o_dates, .ref q_o_kept]))] H → va_D A [(q_o_dates, .inl (cI, o_dates_n, .inl o_dates_f)), (q_o_kept, .inl (cI, o_kept_n, .inl o_kept_f)), (q_o, .inr (7, [.int u2_0, .int o_width, .int o_height, .ref q_o_former, .ref q_o_later, .ref q_o_charts, .ref q_o_lows, .ref q_o_highs, .int o_repeats, .int o_wide, .int o_floor, .int o_across, .int o_down, .long o_sum, .long o_many, .long o_above, .long o_below, .ref q_o_firsts, .ref q_o_changes, .int o_marked, .int o_spots, .int o_days, .ref q_o_dates, .ref q_o_kept]))] → va_S A s.heap H locs → W p l e rm_Mod_growth s m args below meth c H locs 0 0 Q (F0 m 37 ls []) := by
            intro n
            induction n with
            | zero => intro x2_8 x4_9 x7_10 H locs ls hn; exact (pu_it_0 hn).elim
            | succ n ih =>
              intro x2_8 x4_9 x7_10 H locs ls hn hl hP hD hS
              obtain ⟨r_7, h, hr_7⟩ := pu_it_succ hn
              unfold p_Mod_growth_L7 at h
              try dsimp only at h
              refine lv_iload hx hb d_Mod_growth_37 (lv_at hl 0 rfl) ?_
              refine lv_iload hx hb d_Mod_growth_39 (lv_at hl 1 rfl) ?_
              refine lv_icmp_ge (tgt := 100) hx hb d_Mod_growth_41 (by decide) (fun hc => ?_) (fun hc => ?_)
              · have h := pu_t hc h
                cases h
                exact K_7 x2_8 x4_9 x7_10 H locs ls hr_7.symm (lv_sub hl [0, 1, 2, 3, 4, 5] rfl) (hP.sub [0, 1, 2] rfl) (hD.sub [0, 1, 2] (by decide) rfl) hS
              · have h := pu_f hc h
                refine lv_aload_n hx hb d_Mod_growth_44 rfl (lv_at hl 4 rfl) ?_
                refine va_get (D := (dC, dI)) (ci := 7) (v := .ref q_o_dates) (C := R_Mod) (T := F_Mod) (N := 24) hx hb hts i_Mod hown hK hP 2 rfl rfl 22 (by decide) (hts _ k_630) (fun _ h9 => h9) rfl d_Mod_growth_45 ?_
                refine lv_iload hx hb d_Mod_growth_48 (lv_at hl 1 rfl) ?_
                obtain ⟨hg, h⟩ := pu_g h
                refine va_iald hx hb hK hP 0 0 rfl rfl hg d_Mod_growth_50 ?_
                refine lv_aload_n hx hb d_Mod_growth_51 rfl (lv_at hl 4 rfl) ?_
                refine va_get (D := (dC, dI)) (ci := 7) (v := .ref q_o_dates) (C := R_Mod) (T := F_Mod) (N := 24) hx hb hts i_Mod hown hK hP 2 rfl rfl 22 (by decide) (hts _ k_630) (fun _ h9 => h9) rfl d_Mod_growth_52 ?_
                refine lv_iload hx hb d_Mod_growth_55 (lv_at hl 0 rfl) ?_
                obtain ⟨hg, h⟩ := pu_g h
                refine va_iald hx hb hK hP 0 0 rfl rfl hg d_Mod_growth_57 ?_
                refine lv_isub hx hb d_Mod_growth_58 ?_
                refine lv_i2l hx hb d_Mod_growth_59 rfl ?_
                refine lv_lstore (lv' := [(8, .long (((o_dates_f x6_6.toNatClampNeg) - (o_dates_f x7_10.toNatClampNeg)).toInt64)), (7, .int x7_10), (6, .int x6_6), (4, .long x4_9), (2, .long x2_8), (0, .ref q_o), (1, .int a1)]) hx hb d_Mod_growth_60 hl (by decide) rfl (fun ls hl => ?_)
                refine lv_lload_n hx hb d_Mod_growth_62 rfl (lv_at hl 4 rfl) ?_
                refine lv_lload hx hb d_Mod_growth_63 (lv_at hl 0 rfl) ?_
                refine lv_aload_n hx hb d_Mod_growth_65 rfl (lv_at hl 5 rfl) ?_
                refine va_get (D := (dC, dI)) (ci := 7) (v := .ref q_o_kept) (C := R_Mod) (T := F_Mod) (N := 24) hx hb hts i_Mod hown hK hP 2 rfl rfl 23 (by decide) (hts _ k_631) (fun _ h9 => h9) rfl d_Mod_growth_66 ?_
                refine lv_iload hx hb d_Mod_growth_69 (lv_at hl 2 rfl) ?_
                obtain ⟨hg, h⟩ := pu_g h
                refine va_iald hx hb hK hP 1 0 rfl rfl hg d_Mod_growth_71 ?_
                refine lv_aload_n hx hb d_Mod_growth_72 rfl (lv_at hl 5 rfl) ?_
                refine va_get (D := (dC, dI)) (ci := 7) (v := .ref q_o_kept) (C := R_Mod) (T := F_Mod) (N := 24) hx hb hts i_Mod hown hK hP 2 rfl rfl 23 (by decide) (hts _ k_631) (fun _ h9 => h9) rfl d_Mod_growth_73 ?_
                refine lv_iload hx hb d_Mod_growth_76 (lv_at hl 1 rfl) ?_
                obtain ⟨hg, h⟩ := pu_g h
                refine va_iald hx hb hK hP 1 0 rfl rfl hg d_Mod_growth_78 ?_
                refine lv_isub hx hb d_Mod_growth_79 ?_
                refine lv_i2l hx hb d_Mod_growth_80 rfl ?_
                refine lv_lmul hx hb d_Mod_growth_81 ?_
                refine lv_ladd hx hb d_Mod_growth_82 ?_
                refine lv_lstore_n (lv' := [(2, .long (x2_8 + ((((o_dates_f x6_6.toNatClampNeg) - (o_dates_f x7_10.toNatClampNeg)).toInt64) * (((o_kept_f x6_6.toNatClampNeg) - (o_kept_f x7_10.toNatClampNeg)).toInt64)))), (8, .long (((o_dates_f x6_6.toNatClampNeg) - (o_dates_f x7_10.toNatClampNeg)).toInt64)), (7, .int x7_10), (6, .int x6_6), (4, .long x4_9), (0, .ref q_o), (1, .int a1)]) hx hb d_Mod_growth_83 rfl hl (by decide) rfl (fun ls hl => ?_)
                refine lv_lload hx hb d_Mod_growth_84 (lv_at hl 4 rfl) ?_
                refine lv_lload hx hb d_Mod_growth_86 (lv_at hl 1 rfl) ?_
                refine lv_lload hx hb d_Mod_growth_88 (lv_at hl 1 rfl) ?_
                refine lv_lmul hx hb d_Mod_growth_90 ?_
                refine lv_ladd hx hb d_Mod_growth_91 ?_
                refine lv_lstore (lv' := [(4, .long (x4_9 + ((((o_dates_f x6_6.toNatClampNeg) - (o_dates_f x7_10.toNatClampNeg)).toInt64) * (((o_dates_f x6_6.toNatClampNeg) - (o_dates_f x7_10.toNatClampNeg)).toInt64)))), (2, .long (x2_8 + ((((o_dates_f x6_6.toNatClampNeg) - (o_dates_f x7_10.toNatClampNeg)).toInt64) * (((o_kept_f x6_6.toNatClampNeg) - (o_kept_f x7_10.toNatClampNeg)).toInt64)))), (8, .long (((o_dates_f x6_6.toNatClampNeg) - (o_dates_f x7_10.toNatClampNeg)).toInt64)), (7, .int x7_10), (6, .int x6_6), (0, .ref q_o), (1, .int a1)]) hx hb d_Mod_growth_92 hl (by decide) rfl (fun ls hl => ?_)
                refine lv_iinc (v := (x7_10 + 1)) (lv' := [(7, .int (x7_10 + 1)), (4, .long (x4_9 + ((((o_dates_f x6_6.toNatClampNeg) - (o_dates_f x7_10.toNatClampNeg)).toInt64) * (((o_dates_f x6_6.toNatClampNeg) - (o_dates_f x7_10.toNatClampNeg)).toInt64)))), (2, .long (x2_8 + ((((o_dates_f x6_6.toNatClampNeg) - (o_dates_f x7_10.toNatClampNeg)).toInt64) * (((o_kept_f x6_6.toNatClampNeg) - (o_kept_f x7_10.toNatClampNeg)).toInt64)))), (8, .long (((o_dates_f x6_6.toNatClampNeg) - (o_dates_f x7_10.toNatClampNeg)).toInt64)), (6, .int x6_6), (0, .ref q_o), (1, .int a1)]) hx hb d_Mod_growth_94 hl (k := 3) rfl rfl (by decide) rfl (fun ls hl => ?_)
                refine lv_goto (tgt := 37) hx hb d_Mod_growth_97 (by decide) ?_
                cases h
                exact ih (x2_8 + ((((o_dates_f x6_6.toNatClampNeg) - (o_dates_f x7_10.toNatClampNeg)).toInt64) * (((o_kept_f x6_6.toNatClampNeg) - (o_kept_f x7_10.toNatClampNeg)).toInt64))) (x4_9 + ((((o_dates_f x6_6.toNatClampNeg) - (o_dates_f x7_10.toNatClampNeg)).toInt64) * (((o_dates_f x6_6.toNatClampNeg) - (o_dates_f x7_10.toNatClampNeg)).toInt64))) (x7_10 + 1) H locs ls hr_7 (lv_sub hl [0, 4, 1, 2, 5, 6] rfl) (hP.sub [0, 1, 2] rfl) (hD.sub [0, 1, 2] (by decide) rfl) hS
          exact L_7 n_7 x2_4 x4_5 0 H locs ls hn_7 hl hP hD hS
    exact L_3 n_3 0 0 0 H locs ls hn_3 hl hP hD hS
  · have h := pu_t hc h
    refine lv_lconst (v := 0) hx hb d_Mod_growth_15 (by decide) ?_
    cases h
    refine W.widen (k := 0) (n := 0) (Nat.le_of_ble_eq_true rfl) (Nat.le_of_ble_eq_true rfl) ?_
    exact RT 16 ls H locs _ d_Mod_growth_16 (Or.inr (Or.inr (Or.inl ⟨rfl, _, rfl⟩))) rfl (hP.sub [2, 0, 1] rfl) (hD.sub [2, 0, 1] (by decide) rfl) hS

noncomputable def p_Mod_count (a1 : Int32) (o_thrown : Int32) (o_width : Int32) (o_height : Int32) (o_repeats : Int32) (o_wide : Int32) (o_floor : Int32) (o_across : Int32) (o_down : Int32) (o_sum : Int64) (o_many : Int64) (o_above : Int64) (o_below : Int64) (o_marked : Int32) (o_spots : Int32) (o_days : Int32) (o_charts_n : Nat) (o_charts_f : Nat → Int32) : Option (Int32 × Int32) :=
  (p_Mod_within a1 0 6).bind (fun (v1 : Int32) => (p_Mod_goes v1 1 1 o_thrown o_width o_height o_repeats o_wide o_floor o_across o_down o_sum o_many o_above o_below o_marked o_spots o_days).bind (fun ((v2, u2_0) : Int32 × Int32) => (if v2 = 0 then some (0, u2_0) else (if a1 = 0 then some (o_width, u2_0) else (if a1 = 1 then some (o_height, u2_0) else (if a1 = 2 then (p_Mod_chartsNow u2_0 o_width o_height o_repeats o_wide o_floor o_across o_down o_sum o_many o_above o_below o_marked o_spots o_days o_charts_n o_charts_f).bind (fun (v3 : Int32) => some (v3, u2_0)) else (if a1 = 3 then some (o_spots, u2_0) else (if a1 = 4 then some (o_marked, u2_0) else (if a1 = 5 then some (o_days, u2_0) else some (o_repeats, u2_0))))))))))
set_option maxHeartbeats 4000000 in
set_option maxRecDepth 100000 in
theorem c_Mod_count (l : Launch) (dC : Nat → ClassId) (dI : Nat → Nat → Nat) (cI cJ cZ : ClassId) (q_o q_o_former q_o_later q_o_charts q_o_lows q_o_highs q_o_firsts q_o_changes q_o_dates q_o_kept : Nat) (a1 : Int32) (o_thrown : Int32) (o_width : Int32) (o_height : Int32) (o_repeats : Int32) (o_wide : Int32) (o_floor : Int32) (o_across : Int32) (o_down : Int32) (o_sum : Int64) (o_many : Int64) (o_above : Int64) (o_below : Int64) (o_marked : Int32) (o_spots : Int32) (o_days : Int32) (o_charts_n : Nat) (o_charts_f : Nat → Int32) (r0 : Int32) (r1 : Int32) (h : p_Mod_count a1 o_thrown o_width o_height o_repeats o_wide o_floor o_across o_down o_sum o_many o_above o_below o_marked o_spots o_days o_charts_n o_charts_f = some (r0, r1)) : ct l y_Mod_count w_Mod_count rm_Mod_count (dC, dI) [(cI, .int), (cJ, .long), (cZ, .boolean)] [.ref q_o, .int a1] [(q_o, .inr (7, [.int o_thrown, .int o_width, .int o_height, .ref q_o_former, .ref q_o_later, .ref q_o_charts, .ref q_o_lows, .ref q_o_highs, .int o_repeats, .int o_wide, .int o_floor, .int o_across, .int o_down, .long o_sum, .long o_many, .long o_above, .long o_below, .ref q_o_firsts, .ref q_o_changes, .int o_marked, .int o_spots, .int o_days, .ref q_o_dates, .ref q_o_kept])), (q_o_charts, .inl (cZ, o_charts_n, .inl o_charts_f))] (fun w => w = [(q_o, .inr (7, [.int r1, .int o_width, .int o_height, .ref q_o_former, .ref q_o_later, .ref q_o_charts, .ref q_o_lows, .ref q_o_highs, .int o_repeats, .int o_wide, .int o_floor, .int o_across, .int o_down, .long o_sum, .long o_many, .long o_above, .long o_below, .ref q_o_firsts, .ref q_o_changes, .int o_marked, .int o_spots, .int o_days, .ref q_o_dates, .ref q_o_kept])), (q_o_charts, .inl (cZ, o_charts_n, .inl o_charts_f))]) (some (.int r0)) := by
  refine ct_of (cc := b_Mod_count) (maxL := 2) (ret := (some .int)) (lv := [(0, .ref q_o), (1, .int a1)]) (by decide) rfl rfl rfl ?_
  intro p e s m args below meth c A Q H locs hx hb hml hown hts hin hA hK hN hP hD hS RT ls hl
  unfold p_Mod_count at h
  refine lv_aload_n hx hb d_Mod_count_0 rfl (lv_at hl 0 rfl) ?_
  refine lv_iload_n hx hb d_Mod_count_1 rfl (lv_at hl 1 rfl) ?_
  refine lv_iconst (v := 0) hx hb d_Mod_count_2 (by decide) ?_
  refine lv_bipush (v := 6) hx hb d_Mod_count_3 (by decide) ?_
  obtain ⟨v1, hu1, h⟩ := pu_bd h
  refine cc_S (As := [.int a1, .int 0, .int 6]) (rest := [.ref q_o]) ⟨hx, hb, hml, hown, hts⟩ (c_Mod_within l dC dI cI cJ cZ a1 0 6 v1 hu1) (cwS 3 hts (gS k_694 k_695 k_9 k_696 rfl) rfl rfl rfl hdV_Mod_within ⟨Nat.le_of_ble_eq_true rfl, Nat.le_of_ble_eq_true rfl⟩) hK hN hP hD hS hA [] [0, 1] (w0 := []) (wr := [(q_o, .inr (7, [.int o_thrown, .int o_width, .int o_height, .ref q_o_former, .ref q_o_later, .ref q_o_charts, .ref q_o_lows, .ref q_o_highs, .int o_repeats, .int o_wide, .int o_floor, .int o_across, .int o_down, .long o_sum, .long o_many, .long o_above, .long o_below, .ref q_o_firsts, .ref q_o_changes, .int o_marked, .int o_spots, .int o_days, .ref q_o_dates, .ref q_o_kept])), (q_o_charts, .inl (cZ, o_charts_n, .inl o_charts_f))]) rfl rfl (by decide) (by decide) (by decide) rfl hl.1 rfl (Nat.le_of_ble_eq_true rfl) d_Mod_count_5 ⟨Nat.le_of_ble_eq_true rfl, Nat.le_of_ble_eq_true rfl⟩ (fun w1 H locs hw1 hP hD hS => ?_)
  subst hw1
  have hP : va_P (dC, dI) vwCl [(q_o, .inr (7, [.int o_thrown, .int o_width, .int o_height, .ref q_o_former, .ref q_o_later, .ref q_o_charts, .ref q_o_lows, .ref q_o_highs, .int o_repeats, .int o_wide, .int o_floor, .int o_across, .int o_down, .long o_sum, .long o_many, .long o_above, .long o_below, .ref q_o_firsts, .ref q_o_changes, .int o_marked, .int o_spots, .int o_days, .ref q_o_dates, .ref q_o_kept])), (q_o_charts, .inl (cZ, o_charts_n, .inl o_charts_f))] H := hP
  have hD : va_D A [(q_o, .inr (7, [.int o_thrown, .int o_width, .int o_height, .ref q_o_former, .ref q_o_later, .ref q_o_charts, .ref q_o_lows, .ref q_o_highs, .int o_repeats, .int o_wide, .int o_floor, .int o_across, .int o_down, .long o_sum, .long o_many, .long o_above, .long o_below, .ref q_o_firsts, .ref q_o_changes, .int o_marked, .int o_spots, .int o_days, .ref q_o_dates, .ref q_o_kept])), (q_o_charts, .inl (cZ, o_charts_n, .inl o_charts_f))] := hD
  refine lv_iconst (v := 1) hx hb d_Mod_count_8 (by decide) ?_
  refine lv_iconst (v := 1) hx hb d_Mod_count_9 (by decide) ?_
  obtain ⟨⟨v2, u2_0⟩, hu2, h⟩ := pu_bd h
  try dsimp only at h
  refine cc_V (As := [.int v1, .int 1, .int 1]) (rest := []) ⟨hx, hb, hml, hown, hts⟩ (c_Mod_goes l dC dI cI cJ cZ q_o q_o_former q_o_later q_o_charts q_o_lows q_o_highs q_o_firsts q_o_changes q_o_dates q_o_kept v1 1 1 o_thrown o_width o_height o_repeats o_wide o_floor o_across o_down o_sum o_many o_above o_below o_marked o_spots o_days v2 u2_0 hu2) (cwV 3 hts (gV k_697 k_699 kp_16 k_9 k_700 rfl) rfl rfl rfl hdV_Mod_goes ⟨Nat.le_of_ble_eq_true rfl, Nat.le_of_ble_eq_true rfl⟩) hK hN hP hD hS hA [0] [1] (w0 := [(q_o, .inr (7, [.int o_thrown, .int o_width, .int o_height, .ref q_o_former, .ref q_o_later, .ref q_o_charts, .ref q_o_lows, .ref q_o_highs, .int o_repeats, .int o_wide, .int o_floor, .int o_across, .int o_down, .long o_sum, .long o_many, .long o_above, .long o_below, .ref q_o_firsts, .ref q_o_changes, .int o_marked, .int o_spots, .int o_days, .ref q_o_dates, .ref q_o_kept]))]) (wr := [(q_o_charts, .inl (cZ, o_charts_n, .inl o_charts_f))]) rfl rfl (by decide) (by decide) (by decide) 7 rfl rfl rfl hl.1 rfl (Nat.le_of_ble_eq_true rfl) d_Mod_count_10 ⟨Nat.le_of_ble_eq_true rfl, Nat.le_of_ble_eq_true rfl⟩ (fun w1 H locs hw1 hP hD hS => ?_)
  subst hw1
  have hP : va_P (dC, dI) vwCl [(q_o_charts, .inl (cZ, o_charts_n, .inl o_charts_f)), (q_o, .inr (7, [.int u2_0, .int o_width, .int o_height, .ref q_o_former, .ref q_o_later, .ref q_o_charts, .ref q_o_lows, .ref q_o_highs, .int o_repeats, .int o_wide, .int o_floor, .int o_across, .int o_down, .long o_sum, .long o_many, .long o_above, .long o_below, .ref q_o_firsts, .ref q_o_changes, .int o_marked, .int o_spots, .int o_days, .ref q_o_dates, .ref q_o_kept]))] H := hP
  have hD : va_D A [(q_o_charts, .inl (cZ, o_charts_n, .inl o_charts_f)), (q_o, .inr (7, [.int u2_0, .int o_width, .int o_height, .ref q_o_former, .ref q_o_later, .ref q_o_charts, .ref q_o_lows, .ref q_o_highs, .int o_repeats, .int o_wide, .int o_floor, .int o_across, .int o_down, .long o_sum, .long o_many, .long o_above, .long o_below, .ref q_o_firsts, .ref q_o_changes, .int o_marked, .int o_spots, .int o_days, .ref q_o_dates, .ref q_o_kept]))] := hD
  refine lv_if_ne (tgt := 18) hx hb d_Mod_count_13 (by decide) (fun hc => ?_) (fun hc => ?_)
  · have h := pu_f hc h
    refine lv_iload_n hx hb d_Mod_count_18 rfl (lv_at hl 1 rfl) ?_
    by_cases hc0 : a1 = 0
    · have h := pu_t hc0 h
      refine sw_in (v := 0) (tgt := 56) hx hb d_Mod_count_19 hc0 (by decide) (by decide) rfl (by decide) ?_
      refine lv_aload_n hx hb d_Mod_count_56 rfl (lv_at hl 0 rfl) ?_
      refine va_get (D := (dC, dI)) (ci := 7) (v := .int o_width) (C := R_Mod) (T := F_Mod) (N := 24) hx hb hts i_Mod hown hK hP 1 rfl rfl 1 (by decide) (hts _ k_609) (fun _ h9 => h9) rfl d_Mod_count_57 ?_
      cases h
      refine W.widen (k := 0) (n := 0) (Nat.le_of_ble_eq_true rfl) (Nat.le_of_ble_eq_true rfl) ?_
      exact RT 60 ls H locs _ d_Mod_count_60 (Or.inr (Or.inl ⟨rfl, _, rfl⟩)) rfl (hP.sub [1, 0] rfl) (hD.sub [1, 0] (by decide) rfl) hS
    have h := pu_f hc0 h
    by_cases hc1 : a1 = 1
    · have h := pu_t hc1 h
      refine sw_in (v := 1) (tgt := 61) hx hb d_Mod_count_19 hc1 (by decide) (by decide) rfl (by decide) ?_
      refine lv_aload_n hx hb d_Mod_count_61 rfl (lv_at hl 0 rfl) ?_
      refine va_get (D := (dC, dI)) (ci := 7) (v := .int o_height) (C := R_Mod) (T := F_Mod) (N := 24) hx hb hts i_Mod hown hK hP 1 rfl rfl 2 (by decide) (hts _ k_610) (fun _ h9 => h9) rfl d_Mod_count_62 ?_
      cases h
      refine W.widen (k := 0) (n := 0) (Nat.le_of_ble_eq_true rfl) (Nat.le_of_ble_eq_true rfl) ?_
      exact RT 65 ls H locs _ d_Mod_count_65 (Or.inr (Or.inl ⟨rfl, _, rfl⟩)) rfl (hP.sub [1, 0] rfl) (hD.sub [1, 0] (by decide) rfl) hS
    have h := pu_f hc1 h
    by_cases hc2 : a1 = 2
    · have h := pu_t hc2 h
      refine sw_in (v := 2) (tgt := 66) hx hb d_Mod_count_19 hc2 (by decide) (by decide) rfl (by decide) ?_
      refine lv_aload_n hx hb d_Mod_count_66 rfl (lv_at hl 0 rfl) ?_
      obtain ⟨v3, hu3, h⟩ := pu_bd h
      refine cc_V (As := []) (rest := []) ⟨hx, hb, hml, hown, hts⟩ (c_Mod_chartsNow l dC dI cI cJ cZ q_o q_o_former q_o_later q_o_charts q_o_lows q_o_highs q_o_firsts q_o_changes q_o_dates q_o_kept u2_0 o_width o_height o_repeats o_wide o_floor o_across o_down o_sum o_many o_above o_below o_marked o_spots o_days o_charts_n o_charts_f v3 hu3) (cwV 0 hts (gV k_729 k_731 kp_20 k_9 k_732 rfl) rfl rfl rfl hdV_Mod_chartsNow ⟨Nat.le_of_ble_eq_true rfl, Nat.le_of_ble_eq_true rfl⟩) hK hN hP hD hS hA [1, 0] [] (w0 := [(q_o, .inr (7, [.int u2_0, .int o_width, .int o_height, .ref q_o_former, .ref q_o_later, .ref q_o_charts, .ref q_o_lows, .ref q_o_highs, .int o_repeats, .int o_wide, .int o_floor, .int o_across, .int o_down, .long o_sum, .long o_many, .long o_above, .long o_below, .ref q_o_firsts, .ref q_o_changes, .int o_marked, .int o_spots, .int o_days, .ref q_o_dates, .ref q_o_kept])), (q_o_charts, .inl (cZ, o_charts_n, .inl o_charts_f))]) (wr := []) rfl rfl (by decide) (by decide) (by decide) 7 rfl rfl rfl hl.1 rfl (Nat.le_of_ble_eq_true rfl) d_Mod_count_67 ⟨Nat.le_of_ble_eq_true rfl, Nat.le_of_ble_eq_true rfl⟩ (fun w1 H locs hw1 hP hD hS => ?_)
      subst hw1
      have hP : va_P (dC, dI) vwCl [(q_o, .inr (7, [.int u2_0, .int o_width, .int o_height, .ref q_o_former, .ref q_o_later, .ref q_o_charts, .ref q_o_lows, .ref q_o_highs, .int o_repeats, .int o_wide, .int o_floor, .int o_across, .int o_down, .long o_sum, .long o_many, .long o_above, .long o_below, .ref q_o_firsts, .ref q_o_changes, .int o_marked, .int o_spots, .int o_days, .ref q_o_dates, .ref q_o_kept])), (q_o_charts, .inl (cZ, o_charts_n, .inl o_charts_f))] H := hP
      have hD : va_D A [(q_o, .inr (7, [.int u2_0, .int o_width, .int o_height, .ref q_o_former, .ref q_o_later, .ref q_o_charts, .ref q_o_lows, .ref q_o_highs, .int o_repeats, .int o_wide, .int o_floor, .int o_across, .int o_down, .long o_sum, .long o_many, .long o_above, .long o_below, .ref q_o_firsts, .ref q_o_changes, .int o_marked, .int o_spots, .int o_days, .ref q_o_dates, .ref q_o_kept])), (q_o_charts, .inl (cZ, o_charts_n, .inl o_charts_f))] := hD
      cases h
      refine W.widen (k := 0) (n := 0) (Nat.le_of_ble_eq_true rfl) (Nat.le_of_ble_eq_true rfl) ?_
      exact RT 70 ls H locs _ d_Mod_count_70 (Or.inr (Or.inl ⟨rfl, _, rfl⟩)) rfl (hP.sub [0, 1] rfl) (hD.sub [0, 1] (by decide) rfl) hS
    have h := pu_f hc2 h
    by_cases hc3 : a1 = 3
    · have h := pu_t hc3 h
      refine sw_in (v := 3) (tgt := 71) hx hb d_Mod_count_19 hc3 (by decide) (by decide) rfl (by decide) ?_
      refine lv_aload_n hx hb d_Mod_count_71 rfl (lv_at hl 0 rfl) ?_
      refine va_get (D := (dC, dI)) (ci := 7) (v := .int o_spots) (C := R_Mod) (T := F_Mod) (N := 24) hx hb hts i_Mod hown hK hP 1 rfl rfl 20 (by decide) (hts _ k_628) (fun _ h9 => h9) rfl d_Mod_count_72 ?_
      cases h
      refine W.widen (k := 0) (n := 0) (Nat.le_of_ble_eq_true rfl) (Nat.le_of_ble_eq_true rfl) ?_
      exact RT 75 ls H locs _ d_Mod_count_75 (Or.inr (Or.inl ⟨rfl, _, rfl⟩)) rfl (hP.sub [1, 0] rfl) (hD.sub [1, 0] (by decide) rfl) hS
    have h := pu_f hc3 h
    by_cases hc4 : a1 = 4
    · have h := pu_t hc4 h
      refine sw_in (v := 4) (tgt := 76) hx hb d_Mod_count_19 hc4 (by decide) (by decide) rfl (by decide) ?_
      refine lv_aload_n hx hb d_Mod_count_76 rfl (lv_at hl 0 rfl) ?_
      refine va_get (D := (dC, dI)) (ci := 7) (v := .int o_marked) (C := R_Mod) (T := F_Mod) (N := 24) hx hb hts i_Mod hown hK hP 1 rfl rfl 19 (by decide) (hts _ k_627) (fun _ h9 => h9) rfl d_Mod_count_77 ?_
      cases h
      refine W.widen (k := 0) (n := 0) (Nat.le_of_ble_eq_true rfl) (Nat.le_of_ble_eq_true rfl) ?_
      exact RT 80 ls H locs _ d_Mod_count_80 (Or.inr (Or.inl ⟨rfl, _, rfl⟩)) rfl (hP.sub [1, 0] rfl) (hD.sub [1, 0] (by decide) rfl) hS
    have h := pu_f hc4 h
    by_cases hc5 : a1 = 5
    · have h := pu_t hc5 h
      refine sw_in (v := 5) (tgt := 81) hx hb d_Mod_count_19 hc5 (by decide) (by decide) rfl (by decide) ?_
      refine lv_aload_n hx hb d_Mod_count_81 rfl (lv_at hl 0 rfl) ?_
      refine va_get (D := (dC, dI)) (ci := 7) (v := .int o_days) (C := R_Mod) (T := F_Mod) (N := 24) hx hb hts i_Mod hown hK hP 1 rfl rfl 21 (by decide) (hts _ k_629) (fun _ h9 => h9) rfl d_Mod_count_82 ?_
      cases h
      refine W.widen (k := 0) (n := 0) (Nat.le_of_ble_eq_true rfl) (Nat.le_of_ble_eq_true rfl) ?_
      exact RT 85 ls H locs _ d_Mod_count_85 (Or.inr (Or.inl ⟨rfl, _, rfl⟩)) rfl (hP.sub [1, 0] rfl) (hD.sub [1, 0] (by decide) rfl) hS
    have h := pu_f hc5 h
    refine sw_out (tgt := 86) hx hb d_Mod_count_19 ?_ (by decide) ?_
    · have h0 := sw_ne (n := 0) hc0 rfl; have h1 := sw_ne (n := 1) hc1 rfl; have h2 := sw_ne (n := 2) hc2 rfl; have h3 := sw_ne (n := 3) hc3 rfl; have h4 := sw_ne (n := 4) hc4 rfl; have h5 := sw_ne (n := 5) hc5 rfl; omega
    refine lv_aload_n hx hb d_Mod_count_86 rfl (lv_at hl 0 rfl) ?_
    refine va_get (D := (dC, dI)) (ci := 7) (v := .int o_repeats) (C := R_Mod) (T := F_Mod) (N := 24) hx hb hts i_Mod hown hK hP 1 rfl rfl 8 (by decide) (hts _ k_616) (fun _ h9 => h9) rfl d_Mod_count_87 ?_
    cases h
    refine W.widen (k := 0) (n := 0) (Nat.le_of_ble_eq_true rfl) (Nat.le_of_ble_eq_true rfl) ?_
    exact RT 90 ls H locs _ d_Mod_count_90 (Or.inr (Or.inl ⟨rfl, _, rfl⟩)) rfl (hP.sub [1, 0] rfl) (hD.sub [1, 0] (by decide) rfl) hS
  · have h := pu_t hc h
    refine lv_iconst (v := 0) hx hb d_Mod_count_16 (by decide) ?_
    cases h
    refine W.widen (k := 0) (n := 0) (Nat.le_of_ble_eq_true rfl) (Nat.le_of_ble_eq_true rfl) ?_
    exact RT 17 ls H locs _ d_Mod_count_17 (Or.inr (Or.inl ⟨rfl, _, rfl⟩)) rfl (hP.sub [1, 0] rfl) (hD.sub [1, 0] (by decide) rfl) hS
