noncomputable def p_Spots_init_L6 (a1 : Int32) (a2 : Int32) : (Int32 × (Nat → Int32)) → Option ((Int32 × (Nat → Int32)) ⊕ (Int32 × (Nat → Int32))) := fun ((x4_7, new20_f_8) : Int32 × (Nat → Int32)) =>
  (if (a1 * a2) ≤ x4_7 then some (.inr (x4_7, new20_f_8)) else pu_gd (vp_in x4_7 ((a1 * a2).toNatClampNeg)) (some (.inl ((x4_7 + 1), (upd new20_f_8 x4_7.toNatClampNeg (-1))))))
noncomputable def p_Spots_init (a1 : Int32) (a2 : Int32) : Option (Int32 × Int32 × Int32 × Int32 × Int32 × Nat × (Nat → Int32) × Nat × (Nat → Int32) × Nat × (Nat → Int32) × Nat × (Nat → Int32) × Nat × (Nat → Int32)) :=
  pu_gd (¬ (a1 * a2) < 0 ∧ (a1 * a2).toNatClampNeg ≤ 576) (pu_gd (¬ (a1 * a2) < 0 ∧ (a1 * a2).toNatClampNeg ≤ 576) (pu_gd (¬ (a1 * a2) < 0 ∧ (a1 * a2).toNatClampNeg ≤ 576) (pu_gd (¬ (a1 * a2) < 0 ∧ (a1 * a2).toNatClampNeg ≤ 576) (pu_gd (¬ (2 : Int32) = 0) (pu_gd (¬ (7 * (((a1 * a2) + 1) / 2)) < 0 ∧ (7 * (((a1 * a2) + 1) / 2)).toNatClampNeg ≤ 2016) ((pu_loop (p_Spots_init_L6 a1 a2) (0, (fun _ => 0))).bind (fun ((y4_9, z10) : Int32 × (Nat → Int32)) => some (a1, a2, 0, 0, 0, ((a1 * a2).toNatClampNeg), z10, ((a1 * a2).toNatClampNeg), (fun _ => 0), ((a1 * a2).toNatClampNeg), (fun _ => 0), ((a1 * a2).toNatClampNeg), (fun _ => 0), ((7 * (((a1 * a2) + 1) / 2)).toNatClampNeg), (fun _ => 0)))))))))
set_option maxHeartbeats 4000000 in
set_option maxRecDepth 100000 in
theorem c_Spots_init (l : Launch) (dC : Nat → ClassId) (dI : Nat → Nat → Nat) (cI cJ cZ : ClassId) (q_o : Nat) (a1 : Int32) (a2 : Int32) (r0 : Int32) (r1 : Int32) (r2 : Int32) (r3 : Int32) (r4 : Int32) (r5 : Nat) (r6 : Nat → Int32) (r7 : Nat) (r8 : Nat → Int32) (r9 : Nat) (r10 : Nat → Int32) (r11 : Nat) (r12 : Nat → Int32) (r13 : Nat) (r14 : Nat → Int32) (h : p_Spots_init a1 a2 = some (r0, r1, r2, r3, r4, r5, r6, r7, r8, r9, r10, r11, r12, r13, r14)) : ct l y_Spots_init w_Spots_init rm_Spots_init (dC, dI) [(cI, .int), (cJ, .long), (cZ, .boolean)] [.ref q_o, .int a1, .int a2] [(q_o, .inr (6, [.int 0, .int 0, .null, .null, .null, .null, .int 0, .null, .int 0, .int 0]))] (fun w => ∃ (q_o_spotOf q_o_changes q_o_joinedX q_o_joinedY q_o_facts : Nat), w = [(q_o, .inr (6, [.int r0, .int r1, .ref q_o_spotOf, .ref q_o_changes, .ref q_o_joinedX, .ref q_o_joinedY, .int r2, .ref q_o_facts, .int r3, .int r4])), (q_o_spotOf, .inl (cI, r5, .inl r6)), (q_o_changes, .inl (cI, r7, .inl r8)), (q_o_joinedX, .inl (cI, r9, .inl r10)), (q_o_joinedY, .inl (cI, r11, .inl r12)), (q_o_facts, .inl (cI, r13, .inl r14))]) none := by
  refine ct_of (cc := b_Spots_init) (maxL := 5) (ret := none) (lv := [(0, .ref q_o), (1, .int a1), (2, .int a2)]) (by decide) rfl rfl rfl ?_
  intro p e s m args below meth c A Q H locs hx hb hml hown hts hin hA hK hN hP hD hS RT ls hl
  unfold p_Spots_init at h
  refine lv_aload_n hx hb d_Spots_init_0 rfl (lv_at hl 0 rfl) ?_
  refine W.objInit hx hb hown (hts _ k_120) (hts _ k_22) (hts _ k_23) rfl (by rw [hml]; exact hl.1) rfl d_Spots_init_1 (Nat.le_of_ble_eq_true rfl) (Nat.le_of_ble_eq_true rfl) ?_
  refine W.eq (g2 := F0 m 4 ls []) rfl ?_
  refine lv_aload_n hx hb d_Spots_init_4 rfl (lv_at hl 0 rfl) ?_
  refine lv_iload_n hx hb d_Spots_init_5 rfl (lv_at hl 1 rfl) ?_
  refine va_putF (D := (dC, dI)) (ci := 6) (v := .int a1) (ty := .int) (C := R_Spots) (T := F_Spots) (N := 10) hx hb hts i_Spots t_Spots t_Spots_ok n_Spots hown hK hP hD hS 0 rfl rfl 0 (by decide) (hts _ k_121) (fun _ h9 => h9) rfl hin rfl (by decide +kernel) rfl rfl (Nat.le_of_ble_eq_true rfl) d_Spots_init_6 (fun H locs hP hD hS => ?_)
  have hP : va_P (dC, dI) vwCl [(q_o, .inr (6, [.int a1, .int 0, .null, .null, .null, .null, .int 0, .null, .int 0, .int 0]))] H := hP
  have hD : va_D A [(q_o, .inr (6, [.int a1, .int 0, .null, .null, .null, .null, .int 0, .null, .int 0, .int 0]))] := hD
  refine lv_aload_n hx hb d_Spots_init_9 rfl (lv_at hl 0 rfl) ?_
  refine lv_iload_n hx hb d_Spots_init_10 rfl (lv_at hl 2 rfl) ?_
  refine va_putF (D := (dC, dI)) (ci := 6) (v := .int a2) (ty := .int) (C := R_Spots) (T := F_Spots) (N := 10) hx hb hts i_Spots t_Spots t_Spots_ok n_Spots hown hK hP hD hS 0 rfl rfl 1 (by decide) (hts _ k_122) (fun _ h9 => h9) rfl hin rfl (by decide +kernel) rfl rfl (Nat.le_of_ble_eq_true rfl) d_Spots_init_11 (fun H locs hP hD hS => ?_)
  have hP : va_P (dC, dI) vwCl [(q_o, .inr (6, [.int a1, .int a2, .null, .null, .null, .null, .int 0, .null, .int 0, .int 0]))] H := hP
  have hD : va_D A [(q_o, .inr (6, [.int a1, .int a2, .null, .null, .null, .null, .int 0, .null, .int 0, .int 0]))] := hD
  refine lv_iload_n hx hb d_Spots_init_14 rfl (lv_at hl 1 rfl) ?_
  refine lv_iload_n hx hb d_Spots_init_15 rfl (lv_at hl 2 rfl) ?_
  refine lv_imul hx hb d_Spots_init_16 ?_
  refine lv_istore_n (lv' := [(3, .int (a1 * a2)), (0, .ref q_o), (1, .int a1), (2, .int a2)]) hx hb d_Spots_init_17 rfl hl (by decide) rfl (fun ls hl => ?_)
  refine lv_aload_n hx hb d_Spots_init_18 rfl (lv_at hl 1 rfl) ?_
  refine lv_iload_n hx hb d_Spots_init_19 rfl (lv_at hl 0 rfl) ?_
  obtain ⟨hg, h⟩ := pu_g h
  refine va_newa (atype := .int) (ty := .int) (a0 := ((a1 * a2).toNatClampNeg, .inl (fun _ => 0))) (N' := (a1 * a2).toNatClampNeg) hx hb (hts _ k_55) rfl hK hP hD hS hA (fun _ => rfl) hg.1 rfl (Nat.le_trans (Nat.mul_le_mul_right 4 hg.2) (by decide)) (by decide) (Nat.le_trans (Nat.add_le_add_left hg.2 _) (by decide)) d_Spots_init_20 (fun q1 cA H hK2 hP hD hS => ?_)
  obtain rfl : cI = cA := va_RA_int (hK.2 0 (cI, .int) rfl).2 (hK2.2 3 (cA, .int) rfl).2
  refine W.widen (k := 1) (n := 576) (Nat.le_refl _) (Nat.add_le_add_left hg.2 _) ?_
  have hP : va_P (dC, dI) vwCl [(q_o, .inr (6, [.int a1, .int a2, .null, .null, .null, .null, .int 0, .null, .int 0, .int 0])), (q1, .inl (cI, ((a1 * a2).toNatClampNeg), .inl (fun _ => 0)))] H := hP
  have hD : va_D A [(q_o, .inr (6, [.int a1, .int a2, .null, .null, .null, .null, .int 0, .null, .int 0, .int 0])), (q1, .inl (cI, ((a1 * a2).toNatClampNeg), .inl (fun _ => 0)))] := hD
  refine va_putF (D := (dC, dI)) (ci := 6) (v := .ref q1) (ty := (.array .int)) (C := R_Spots) (T := F_Spots) (N := 10) hx hb hts i_Spots t_Spots t_Spots_ok n_Spots hown hK hP hD hS 0 rfl rfl 2 (by decide) (hts _ k_123) (fun _ h9 => h9) rfl hin rfl (by decide +kernel) rfl rfl (Nat.le_of_ble_eq_true rfl) d_Spots_init_22 (fun H locs hP hD hS => ?_)
  have hP : va_P (dC, dI) vwCl [(q_o, .inr (6, [.int a1, .int a2, .ref q1, .null, .null, .null, .int 0, .null, .int 0, .int 0])), (q1, .inl (cI, ((a1 * a2).toNatClampNeg), .inl (fun _ => 0)))] H := hP
  have hD : va_D A [(q_o, .inr (6, [.int a1, .int a2, .ref q1, .null, .null, .null, .int 0, .null, .int 0, .int 0])), (q1, .inl (cI, ((a1 * a2).toNatClampNeg), .inl (fun _ => 0)))] := hD
  refine lv_aload_n hx hb d_Spots_init_25 rfl (lv_at hl 1 rfl) ?_
  refine lv_iload_n hx hb d_Spots_init_26 rfl (lv_at hl 0 rfl) ?_
  obtain ⟨hg, h⟩ := pu_g h
  refine va_newa (atype := .int) (ty := .int) (a0 := ((a1 * a2).toNatClampNeg, .inl (fun _ => 0))) (N' := (a1 * a2).toNatClampNeg) hx hb (hts _ k_55) rfl hK hP hD hS hA (fun _ => rfl) hg.1 rfl (Nat.le_trans (Nat.mul_le_mul_right 4 hg.2) (by decide)) (by decide) (Nat.le_trans (Nat.add_le_add_left hg.2 _) (by decide)) d_Spots_init_27 (fun q2 cA H hK2 hP hD hS => ?_)
  obtain rfl : cI = cA := va_RA_int (hK.2 0 (cI, .int) rfl).2 (hK2.2 3 (cA, .int) rfl).2
  refine W.widen (k := 2) (n := 1152) (Nat.le_refl _) (Nat.add_le_add_left hg.2 _) ?_
  have hP : va_P (dC, dI) vwCl [(q_o, .inr (6, [.int a1, .int a2, .ref q1, .null, .null, .null, .int 0, .null, .int 0, .int 0])), (q1, .inl (cI, ((a1 * a2).toNatClampNeg), .inl (fun _ => 0))), (q2, .inl (cI, ((a1 * a2).toNatClampNeg), .inl (fun _ => 0)))] H := hP
  have hD : va_D A [(q_o, .inr (6, [.int a1, .int a2, .ref q1, .null, .null, .null, .int 0, .null, .int 0, .int 0])), (q1, .inl (cI, ((a1 * a2).toNatClampNeg), .inl (fun _ => 0))), (q2, .inl (cI, ((a1 * a2).toNatClampNeg), .inl (fun _ => 0)))] := hD
  refine va_putF (D := (dC, dI)) (ci := 6) (v := .ref q2) (ty := (.array .int)) (C := R_Spots) (T := F_Spots) (N := 10) hx hb hts i_Spots t_Spots t_Spots_ok n_Spots hown hK hP hD hS 0 rfl rfl 3 (by decide) (hts _ k_124) (fun _ h9 => h9) rfl hin rfl (by decide +kernel) rfl rfl (Nat.le_of_ble_eq_true rfl) d_Spots_init_29 (fun H locs hP hD hS => ?_)
  have hP : va_P (dC, dI) vwCl [(q_o, .inr (6, [.int a1, .int a2, .ref q1, .ref q2, .null, .null, .int 0, .null, .int 0, .int 0])), (q1, .inl (cI, ((a1 * a2).toNatClampNeg), .inl (fun _ => 0))), (q2, .inl (cI, ((a1 * a2).toNatClampNeg), .inl (fun _ => 0)))] H := hP
  have hD : va_D A [(q_o, .inr (6, [.int a1, .int a2, .ref q1, .ref q2, .null, .null, .int 0, .null, .int 0, .int 0])), (q1, .inl (cI, ((a1 * a2).toNatClampNeg), .inl (fun _ => 0))), (q2, .inl (cI, ((a1 * a2).toNatClampNeg), .inl (fun _ => 0)))] := hD
  refine lv_aload_n hx hb d_Spots_init_32 rfl (lv_at hl 1 rfl) ?_
  refine lv_iload_n hx hb d_Spots_init_33 rfl (lv_at hl 0 rfl) ?_
  obtain ⟨hg, h⟩ := pu_g h
  refine va_newa (atype := .int) (ty := .int) (a0 := ((a1 * a2).toNatClampNeg, .inl (fun _ => 0))) (N' := (a1 * a2).toNatClampNeg) hx hb (hts _ k_55) rfl hK hP hD hS hA (fun _ => rfl) hg.1 rfl (Nat.le_trans (Nat.mul_le_mul_right 4 hg.2) (by decide)) (by decide) (Nat.le_trans (Nat.add_le_add_left hg.2 _) (by decide)) d_Spots_init_34 (fun q3 cA H hK2 hP hD hS => ?_)
  obtain rfl : cI = cA := va_RA_int (hK.2 0 (cI, .int) rfl).2 (hK2.2 3 (cA, .int) rfl).2
  refine W.widen (k := 3) (n := 1728) (Nat.le_refl _) (Nat.add_le_add_left hg.2 _) ?_
  have hP : va_P (dC, dI) vwCl [(q_o, .inr (6, [.int a1, .int a2, .ref q1, .ref q2, .null, .null, .int 0, .null, .int 0, .int 0])), (q1, .inl (cI, ((a1 * a2).toNatClampNeg), .inl (fun _ => 0))), (q2, .inl (cI, ((a1 * a2).toNatClampNeg), .inl (fun _ => 0))), (q3, .inl (cI, ((a1 * a2).toNatClampNeg), .inl (fun _ => 0)))] H := hP
  have hD : va_D A [(q_o, .inr (6, [.int a1, .int a2, .ref q1, .ref q2, .null, .null, .int 0, .null, .int 0, .int 0])), (q1, .inl (cI, ((a1 * a2).toNatClampNeg), .inl (fun _ => 0))), (q2, .inl (cI, ((a1 * a2).toNatClampNeg), .inl (fun _ => 0))), (q3, .inl (cI, ((a1 * a2).toNatClampNeg), .inl (fun _ => 0)))] := hD
  refine va_putF (D := (dC, dI)) (ci := 6) (v := .ref q3) (ty := (.array .int)) (C := R_Spots) (T := F_Spots) (N := 10) hx hb hts i_Spots t_Spots t_Spots_ok n_Spots hown hK hP hD hS 0 rfl rfl 4 (by decide) (hts _ k_125) (fun _ h9 => h9) rfl hin rfl (by decide +kernel) rfl rfl (Nat.le_of_ble_eq_true rfl) d_Spots_init_36 (fun H locs hP hD hS => ?_)
  have hP : va_P (dC, dI) vwCl [(q_o, .inr (6, [.int a1, .int a2, .ref q1, .ref q2, .ref q3, .null, .int 0, .null, .int 0, .int 0])), (q1, .inl (cI, ((a1 * a2).toNatClampNeg), .inl (fun _ => 0))), (q2, .inl (cI, ((a1 * a2).toNatClampNeg), .inl (fun _ => 0))), (q3, .inl (cI, ((a1 * a2).toNatClampNeg), .inl (fun _ => 0)))] H := hP
  have hD : va_D A [(q_o, .inr (6, [.int a1, .int a2, .ref q1, .ref q2, .ref q3, .null, .int 0, .null, .int 0, .int 0])), (q1, .inl (cI, ((a1 * a2).toNatClampNeg), .inl (fun _ => 0))), (q2, .inl (cI, ((a1 * a2).toNatClampNeg), .inl (fun _ => 0))), (q3, .inl (cI, ((a1 * a2).toNatClampNeg), .inl (fun _ => 0)))] := hD
  refine lv_aload_n hx hb d_Spots_init_39 rfl (lv_at hl 1 rfl) ?_
  refine lv_iload_n hx hb d_Spots_init_40 rfl (lv_at hl 0 rfl) ?_
  obtain ⟨hg, h⟩ := pu_g h
  refine va_newa (atype := .int) (ty := .int) (a0 := ((a1 * a2).toNatClampNeg, .inl (fun _ => 0))) (N' := (a1 * a2).toNatClampNeg) hx hb (hts _ k_55) rfl hK hP hD hS hA (fun _ => rfl) hg.1 rfl (Nat.le_trans (Nat.mul_le_mul_right 4 hg.2) (by decide)) (by decide) (Nat.le_trans (Nat.add_le_add_left hg.2 _) (by decide)) d_Spots_init_41 (fun q4 cA H hK2 hP hD hS => ?_)
  obtain rfl : cI = cA := va_RA_int (hK.2 0 (cI, .int) rfl).2 (hK2.2 3 (cA, .int) rfl).2
  refine W.widen (k := 4) (n := 2304) (Nat.le_refl _) (Nat.add_le_add_left hg.2 _) ?_
  have hP : va_P (dC, dI) vwCl [(q_o, .inr (6, [.int a1, .int a2, .ref q1, .ref q2, .ref q3, .null, .int 0, .null, .int 0, .int 0])), (q1, .inl (cI, ((a1 * a2).toNatClampNeg), .inl (fun _ => 0))), (q2, .inl (cI, ((a1 * a2).toNatClampNeg), .inl (fun _ => 0))), (q3, .inl (cI, ((a1 * a2).toNatClampNeg), .inl (fun _ => 0))), (q4, .inl (cI, ((a1 * a2).toNatClampNeg), .inl (fun _ => 0)))] H := hP
  have hD : va_D A [(q_o, .inr (6, [.int a1, .int a2, .ref q1, .ref q2, .ref q3, .null, .int 0, .null, .int 0, .int 0])), (q1, .inl (cI, ((a1 * a2).toNatClampNeg), .inl (fun _ => 0))), (q2, .inl (cI, ((a1 * a2).toNatClampNeg), .inl (fun _ => 0))), (q3, .inl (cI, ((a1 * a2).toNatClampNeg), .inl (fun _ => 0))), (q4, .inl (cI, ((a1 * a2).toNatClampNeg), .inl (fun _ => 0)))] := hD
  refine va_putF (D := (dC, dI)) (ci := 6) (v := .ref q4) (ty := (.array .int)) (C := R_Spots) (T := F_Spots) (N := 10) hx hb hts i_Spots t_Spots t_Spots_ok n_Spots hown hK hP hD hS 0 rfl rfl 5 (by decide) (hts _ k_126) (fun _ h9 => h9) rfl hin rfl (by decide +kernel) rfl rfl (Nat.le_of_ble_eq_true rfl) d_Spots_init_43 (fun H locs hP hD hS => ?_)
  have hP : va_P (dC, dI) vwCl [(q_o, .inr (6, [.int a1, .int a2, .ref q1, .ref q2, .ref q3, .ref q4, .int 0, .null, .int 0, .int 0])), (q1, .inl (cI, ((a1 * a2).toNatClampNeg), .inl (fun _ => 0))), (q2, .inl (cI, ((a1 * a2).toNatClampNeg), .inl (fun _ => 0))), (q3, .inl (cI, ((a1 * a2).toNatClampNeg), .inl (fun _ => 0))), (q4, .inl (cI, ((a1 * a2).toNatClampNeg), .inl (fun _ => 0)))] H := hP
  have hD : va_D A [(q_o, .inr (6, [.int a1, .int a2, .ref q1, .ref q2, .ref q3, .ref q4, .int 0, .null, .int 0, .int 0])), (q1, .inl (cI, ((a1 * a2).toNatClampNeg), .inl (fun _ => 0))), (q2, .inl (cI, ((a1 * a2).toNatClampNeg), .inl (fun _ => 0))), (q3, .inl (cI, ((a1 * a2).toNatClampNeg), .inl (fun _ => 0))), (q4, .inl (cI, ((a1 * a2).toNatClampNeg), .inl (fun _ => 0)))] := hD
  refine lv_aload_n hx hb d_Spots_init_46 rfl (lv_at hl 1 rfl) ?_
  refine lv_bipush (v := 7) hx hb d_Spots_init_47 (by decide) ?_
  refine lv_iload_n hx hb d_Spots_init_49 rfl (lv_at hl 0 rfl) ?_
  refine lv_iconst (v := 1) hx hb d_Spots_init_50 (by decide) ?_
  refine lv_iadd hx hb d_Spots_init_51 ?_
  refine lv_iconst (v := 2) hx hb d_Spots_init_52 (by decide) ?_
  obtain ⟨hg, h⟩ := pu_g h
  refine lv_idiv hx hb d_Spots_init_53 hg ?_
  refine lv_imul hx hb d_Spots_init_54 ?_
  obtain ⟨hg, h⟩ := pu_g h
  refine va_newa (atype := .int) (ty := .int) (a0 := ((7 * (((a1 * a2) + 1) / 2)).toNatClampNeg, .inl (fun _ => 0))) (N' := (7 * (((a1 * a2) + 1) / 2)).toNatClampNeg) hx hb (hts _ k_55) rfl hK hP hD hS hA (fun _ => rfl) hg.1 rfl (Nat.le_trans (Nat.mul_le_mul_right 4 hg.2) (by decide)) (by decide) (Nat.le_trans (Nat.add_le_add_left hg.2 _) (by decide)) d_Spots_init_55 (fun q5 cA H hK2 hP hD hS => ?_)
  obtain rfl : cI = cA := va_RA_int (hK.2 0 (cI, .int) rfl).2 (hK2.2 3 (cA, .int) rfl).2
  refine W.widen (k := 5) (n := 4320) (Nat.le_refl _) (Nat.add_le_add_left hg.2 _) ?_
  have hP : va_P (dC, dI) vwCl [(q_o, .inr (6, [.int a1, .int a2, .ref q1, .ref q2, .ref q3, .ref q4, .int 0, .null, .int 0, .int 0])), (q1, .inl (cI, ((a1 * a2).toNatClampNeg), .inl (fun _ => 0))), (q2, .inl (cI, ((a1 * a2).toNatClampNeg), .inl (fun _ => 0))), (q3, .inl (cI, ((a1 * a2).toNatClampNeg), .inl (fun _ => 0))), (q4, .inl (cI, ((a1 * a2).toNatClampNeg), .inl (fun _ => 0))), (q5, .inl (cI, ((7 * (((a1 * a2) + 1) / 2)).toNatClampNeg), .inl (fun _ => 0)))] H := hP
  have hD : va_D A [(q_o, .inr (6, [.int a1, .int a2, .ref q1, .ref q2, .ref q3, .ref q4, .int 0, .null, .int 0, .int 0])), (q1, .inl (cI, ((a1 * a2).toNatClampNeg), .inl (fun _ => 0))), (q2, .inl (cI, ((a1 * a2).toNatClampNeg), .inl (fun _ => 0))), (q3, .inl (cI, ((a1 * a2).toNatClampNeg), .inl (fun _ => 0))), (q4, .inl (cI, ((a1 * a2).toNatClampNeg), .inl (fun _ => 0))), (q5, .inl (cI, ((7 * (((a1 * a2) + 1) / 2)).toNatClampNeg), .inl (fun _ => 0)))] := hD
  refine va_putF (D := (dC, dI)) (ci := 6) (v := .ref q5) (ty := (.array .int)) (C := R_Spots) (T := F_Spots) (N := 10) hx hb hts i_Spots t_Spots t_Spots_ok n_Spots hown hK hP hD hS 0 rfl rfl 7 (by decide) (hts _ k_128) (fun _ h9 => h9) rfl hin rfl (by decide +kernel) rfl rfl (Nat.le_of_ble_eq_true rfl) d_Spots_init_57 (fun H locs hP hD hS => ?_)
  have hP : va_P (dC, dI) vwCl [(q_o, .inr (6, [.int a1, .int a2, .ref q1, .ref q2, .ref q3, .ref q4, .int 0, .ref q5, .int 0, .int 0])), (q1, .inl (cI, ((a1 * a2).toNatClampNeg), .inl (fun _ => 0))), (q2, .inl (cI, ((a1 * a2).toNatClampNeg), .inl (fun _ => 0))), (q3, .inl (cI, ((a1 * a2).toNatClampNeg), .inl (fun _ => 0))), (q4, .inl (cI, ((a1 * a2).toNatClampNeg), .inl (fun _ => 0))), (q5, .inl (cI, ((7 * (((a1 * a2) + 1) / 2)).toNatClampNeg), .inl (fun _ => 0)))] H := hP
  have hD : va_D A [(q_o, .inr (6, [.int a1, .int a2, .ref q1, .ref q2, .ref q3, .ref q4, .int 0, .ref q5, .int 0, .int 0])), (q1, .inl (cI, ((a1 * a2).toNatClampNeg), .inl (fun _ => 0))), (q2, .inl (cI, ((a1 * a2).toNatClampNeg), .inl (fun _ => 0))), (q3, .inl (cI, ((a1 * a2).toNatClampNeg), .inl (fun _ => 0))), (q4, .inl (cI, ((a1 * a2).toNatClampNeg), .inl (fun _ => 0))), (q5, .inl (cI, ((7 * (((a1 * a2) + 1) / 2)).toNatClampNeg), .inl (fun _ => 0)))] := hD
  refine lv_iconst (v := 0) hx hb d_Spots_init_60 (by decide) ?_
  refine lv_istore (lv' := [(4, .int 0), (3, .int (a1 * a2)), (0, .ref q_o), (1, .int a1), (2, .int a2)]) hx hb d_Spots_init_61 hl (by decide) rfl (fun ls hl => ?_)
  obtain ⟨e_6, he_6, hx_6⟩ := pu_bd h
  obtain ⟨n_6, hn_6⟩ := pu_loop_it he_6
  have K_6 : ∀ (y4_9 : Int32) (z10 : Nat → Int32) (H : Heap) (locs : List Loc) (ls : Array Slot), e_6 = (y4_9, z10) → lv_has ls 5 [(4, .int y4_9), (3, .int (a1 * a2)), (0, .ref q_o), (1, .int a1), (2, .int a2)] → va_P (dC, dI) vwCl [(q_o, .inr (6, [.int a1, .int a2, .ref q1, .ref q2, .ref q3, .ref q4, .int 0, .ref q5, .int 0, .int 0])), (q1, .inl (cI, ((a1 * a2).toNatClampNeg), .inl z10)), (q2, .inl (cI, ((a1 * a2).toNatClampNeg), .inl (fun _ => 0))), (q3, .inl (cI, ((a1 * a2).toNatClampNeg), .inl (fun _ => 0))), (q4, .inl (cI, ((a1 * a2).toNatClampNeg), .inl (fun _ => 0))), (q5, .inl (cI, ((7 * (((a1 * a2) + 1) / 2)).toNatClampNeg), .inl (fun _ => 0)))] H → va_D A [(q_o, .inr (6, [.int a1, .int a2, .ref q1, .ref q2, .ref q3, .ref q4, .int 0, .ref q5, .int 0, .int 0])), (q1, .inl (cI, ((a1 * a2).toNatClampNeg), .inl z10)), (q2, .inl (cI, ((a1 * a2).toNatClampNeg), .inl (fun _ => 0))), (q3, .inl (cI, ((a1 * a2).toNatClampNeg), .inl (fun _ => 0))), (q4, .inl (cI, ((a1 * a2).toNatClampNeg), .inl (fun _ => 0))), (q5, .inl (cI, ((7 * (((a1 * a2) + 1) / 2)).toNatClampNeg), .inl (fun _ => 0)))] → va_S A s.heap H locs → W p l e rm_Spots_init s m args below meth c H locs 5 4320 Q (F0 m 83 ls []) := by
    intro y4_9 z10 H locs ls he hl hP hD hS
    have h := hx_6
    rw [he] at h
    try dsimp only at h
    cases h
    refine W.widen (k := 5) (n := 4320) (Nat.le_of_ble_eq_true rfl) (Nat.le_of_ble_eq_true rfl) ?_
    exact RT 83 ls H locs _ d_Spots_init_83 (Or.inl ⟨rfl, rfl⟩) ⟨q1, q2, q3, q4, q5, rfl⟩ (hP.sub [0, 1, 2, 3, 4, 5] rfl) (hD.sub [0, 1, 2, 3, 4, 5] (by decide) rfl) hS
  have L_6 : ∀ (n : Nat) (x4_7 : Int32) (new20_f_8 : Nat → Int32) (H : Heap) (locs : List Loc) (ls : Array Slot), pu_it (p_Spots_init_L6 a1 a2) n (x4_7, new20_f_8) = some e_6 → lv_has ls 5 [(4, .int x4_7), (3, .int (a1 * a2)), (0, .ref q_o), (1, .int a1), (2, .int a2)] → va_P (dC, dI) vwCl [(q_o, .inr (6, [.int a1, .int a2, .ref q1, .ref q2, .ref q3, .ref q4, .int 0, .ref q5, .int 0, .int 0])), (q1, .inl (cI, ((a1 * a2).toNatClampNeg), .inl new20_f_8)), (q2, .inl (cI, ((a1 * a2).toNatClampNeg), .inl (fun _ => 0))), (q3, .inl (cI, ((a1 * a2).toNatClampNeg), .inl (fun _ => 0))), (q4, .inl (cI, ((a1 * a2).toNatClampNeg), .inl (fun _ => 0))), (q5, .inl (cI, ((7 * (((a1 * a2) + 1) / 2)).toNatClampNeg), .inl (fun _ => 0)))] H → va_D A [(q_o, .inr (6, [.int a1, .int a2, .ref q1, .ref q2, .ref q3, .ref q4, .int 0, .ref q5, .int 0, .int 0])), (q1, .inl (cI, ((a1 * a2).toNatClampNeg), .inl new20_f_8)), (q2, .inl (cI, ((a1 * a2).toNatClampNeg), .inl (fun _ => 0))), (q3, .inl (cI, ((a1 * a2).toNatClampNeg), .inl (fun _ => 0))), (q4, .inl (cI, ((a1 * a2).toNatClampNeg), .inl (fun _ => 0))), (q5, .inl (cI, ((7 * (((a1 * a2) + 1) / 2)).toNatClampNeg), .inl (fun _ => 0)))] → va_S A s.heap H locs → W p l e rm_Spots_init s m args below meth c H locs 5 4320 Q (F0 m 63 ls []) := by
    intro n
    induction n with
    | zero => intro x4_7 new20_f_8 H locs ls hn; exact (pu_it_0 hn).elim
    | succ n ih =>
      intro x4_7 new20_f_8 H locs ls hn hl hP hD hS
      obtain ⟨r_6, h, hr_6⟩ := pu_it_succ hn
      unfold p_Spots_init_L6 at h
      try dsimp only at h
      refine lv_iload hx hb d_Spots_init_63 (lv_at hl 0 rfl) ?_
      refine lv_iload_n hx hb d_Spots_init_65 rfl (lv_at hl 1 rfl) ?_
      refine lv_icmp_ge (tgt := 83) hx hb d_Spots_init_66 (by decide) (fun hc => ?_) (fun hc => ?_)
      · have h := pu_t hc h
        cases h
        exact K_6 x4_7 new20_f_8 H locs ls hr_6.symm (lv_sub hl [0, 1, 2, 3, 4] rfl) (hP.sub [0, 1, 2, 3, 4, 5] rfl) (hD.sub [0, 1, 2, 3, 4, 5] (by decide) rfl) hS
      · have h := pu_f hc h
        refine lv_aload_n hx hb d_Spots_init_69 rfl (lv_at hl 2 rfl) ?_
        refine va_get (D := (dC, dI)) (ci := 6) (v := .ref q1) (C := R_Spots) (T := F_Spots) (N := 10) hx hb hts i_Spots hown hK hP 0 rfl rfl 2 (by decide) (hts _ k_123) (fun _ h9 => h9) rfl d_Spots_init_70 ?_
        refine lv_iload hx hb d_Spots_init_73 (lv_at hl 0 rfl) ?_
        refine lv_iconst (v := (-1)) hx hb d_Spots_init_75 (by decide) ?_
        obtain ⟨hg, h⟩ := pu_g h
        refine va_iast hx hb hK hP hD hS 1 0 rfl rfl hg d_Spots_init_76 (fun H locs hP hD hS => ?_)
        have hP : va_P (dC, dI) vwCl [(q_o, .inr (6, [.int a1, .int a2, .ref q1, .ref q2, .ref q3, .ref q4, .int 0, .ref q5, .int 0, .int 0])), (q1, .inl (cI, ((a1 * a2).toNatClampNeg), .inl (upd new20_f_8 x4_7.toNatClampNeg (-1)))), (q2, .inl (cI, ((a1 * a2).toNatClampNeg), .inl (fun _ => 0))), (q3, .inl (cI, ((a1 * a2).toNatClampNeg), .inl (fun _ => 0))), (q4, .inl (cI, ((a1 * a2).toNatClampNeg), .inl (fun _ => 0))), (q5, .inl (cI, ((7 * (((a1 * a2) + 1) / 2)).toNatClampNeg), .inl (fun _ => 0)))] H := hP
        have hD : va_D A [(q_o, .inr (6, [.int a1, .int a2, .ref q1, .ref q2, .ref q3, .ref q4, .int 0, .ref q5, .int 0, .int 0])), (q1, .inl (cI, ((a1 * a2).toNatClampNeg), .inl (upd new20_f_8 x4_7.toNatClampNeg (-1)))), (q2, .inl (cI, ((a1 * a2).toNatClampNeg), .inl (fun _ => 0))), (q3, .inl (cI, ((a1 * a2).toNatClampNeg), .inl (fun _ => 0))), (q4, .inl (cI, ((a1 * a2).toNatClampNeg), .inl (fun _ => 0))), (q5, .inl (cI, ((7 * (((a1 * a2) + 1) / 2)).toNatClampNeg), .inl (fun _ => 0)))] := hD
        refine lv_iinc (v := (x4_7 + 1)) (lv' := [(4, .int (x4_7 + 1)), (3, .int (a1 * a2)), (0, .ref q_o), (1, .int a1), (2, .int a2)]) hx hb d_Spots_init_77 hl (k := 0) rfl rfl (by decide) rfl (fun ls hl => ?_)
        refine lv_goto (tgt := 63) hx hb d_Spots_init_80 (by decide) ?_
        cases h
        exact ih (x4_7 + 1) (upd new20_f_8 x4_7.toNatClampNeg (-1)) H locs ls hr_6 (lv_sub hl [0, 1, 2, 3, 4] rfl) (hP.sub [0, 1, 2, 3, 4, 5] rfl) (hD.sub [0, 1, 2, 3, 4, 5] (by decide) rfl) hS
  exact L_6 n_6 0 (fun _ => 0) H locs ls hn_6 hl hP hD hS

noncomputable def p_Spots_clear_L1 (o_spotOf_n : Nat) : (Int32 × (Nat → Int32)) → Option ((Int32 × (Nat → Int32)) ⊕ (Int32 × (Nat → Int32))) := fun ((x1_2, o_spotOf_f_3) : Int32 × (Nat → Int32)) =>
  (if (Int32.ofNat o_spotOf_n) ≤ x1_2 then some (.inr (x1_2, o_spotOf_f_3)) else pu_gd (vp_in x1_2 o_spotOf_n) (some (.inl ((x1_2 + 1), (upd o_spotOf_f_3 x1_2.toNatClampNeg (-1))))))
noncomputable def p_Spots_clear (o_width : Int32) (o_height : Int32) (o_joined : Int32) (o_found : Int32) (o_marked : Int32) (o_spotOf_n : Nat) (o_spotOf_f : Nat → Int32) : Option (Int32 × Int32 × (Nat → Int32)) :=
  (pu_loop (p_Spots_clear_L1 o_spotOf_n) (0, o_spotOf_f)).bind (fun ((y1_4, z5) : Int32 × (Nat → Int32)) => some (0, 0, z5))
set_option maxHeartbeats 4000000 in
set_option maxRecDepth 100000 in
theorem c_Spots_clear (l : Launch) (dC : Nat → ClassId) (dI : Nat → Nat → Nat) (cI cJ cZ : ClassId) (q_o q_o_spotOf q_o_changes q_o_joinedX q_o_joinedY q_o_facts : Nat) (o_width : Int32) (o_height : Int32) (o_joined : Int32) (o_found : Int32) (o_marked : Int32) (o_spotOf_n : Nat) (o_spotOf_f : Nat → Int32) (r0 : Int32) (r1 : Int32) (r2 : Nat → Int32) (h : p_Spots_clear o_width o_height o_joined o_found o_marked o_spotOf_n o_spotOf_f = some (r0, r1, r2)) : ct l y_Spots_clear w_Spots_clear rm_Spots_clear (dC, dI) [(cI, .int), (cJ, .long), (cZ, .boolean)] [.ref q_o] [(q_o, .inr (6, [.int o_width, .int o_height, .ref q_o_spotOf, .ref q_o_changes, .ref q_o_joinedX, .ref q_o_joinedY, .int o_joined, .ref q_o_facts, .int o_found, .int o_marked])), (q_o_spotOf, .inl (cI, o_spotOf_n, .inl o_spotOf_f))] (fun w => w = [(q_o, .inr (6, [.int o_width, .int o_height, .ref q_o_spotOf, .ref q_o_changes, .ref q_o_joinedX, .ref q_o_joinedY, .int o_joined, .ref q_o_facts, .int r0, .int r1])), (q_o_spotOf, .inl (cI, o_spotOf_n, .inl r2))]) none := by
  refine ct_of (cc := b_Spots_clear) (maxL := 2) (ret := none) (lv := [(0, .ref q_o)]) (by decide) rfl rfl rfl ?_
  intro p e s m args below meth c A Q H locs hx hb hml hown hts hin hA hK hN hP hD hS RT ls hl
  unfold p_Spots_clear at h
  refine lv_aload_n hx hb d_Spots_clear_0 rfl (lv_at hl 0 rfl) ?_
  refine lv_iconst (v := 0) hx hb d_Spots_clear_1 (by decide) ?_
  refine va_put (D := (dC, dI)) (ci := 6) (v := .int 0) (ty := .int) (C := R_Spots) (T := F_Spots) (N := 10) hx hb hts i_Spots t_Spots t_Spots_ok n_Spots hown hK hP hD hS 0 rfl rfl 8 (by decide) (hts _ k_129) (fun _ h9 => h9) rfl (by decide +kernel) rfl rfl (Nat.le_of_ble_eq_true rfl) d_Spots_clear_2 (fun H locs hP hD hS => ?_)
  have hP : va_P (dC, dI) vwCl [(q_o, .inr (6, [.int o_width, .int o_height, .ref q_o_spotOf, .ref q_o_changes, .ref q_o_joinedX, .ref q_o_joinedY, .int o_joined, .ref q_o_facts, .int 0, .int o_marked])), (q_o_spotOf, .inl (cI, o_spotOf_n, .inl o_spotOf_f))] H := hP
  have hD : va_D A [(q_o, .inr (6, [.int o_width, .int o_height, .ref q_o_spotOf, .ref q_o_changes, .ref q_o_joinedX, .ref q_o_joinedY, .int o_joined, .ref q_o_facts, .int 0, .int o_marked])), (q_o_spotOf, .inl (cI, o_spotOf_n, .inl o_spotOf_f))] := hD
  refine lv_aload_n hx hb d_Spots_clear_5 rfl (lv_at hl 0 rfl) ?_
  refine lv_iconst (v := 0) hx hb d_Spots_clear_6 (by decide) ?_
  refine va_put (D := (dC, dI)) (ci := 6) (v := .int 0) (ty := .int) (C := R_Spots) (T := F_Spots) (N := 10) hx hb hts i_Spots t_Spots t_Spots_ok n_Spots hown hK hP hD hS 0 rfl rfl 9 (by decide) (hts _ k_131) (fun _ h9 => h9) rfl (by decide +kernel) rfl rfl (Nat.le_of_ble_eq_true rfl) d_Spots_clear_7 (fun H locs hP hD hS => ?_)
  have hP : va_P (dC, dI) vwCl [(q_o, .inr (6, [.int o_width, .int o_height, .ref q_o_spotOf, .ref q_o_changes, .ref q_o_joinedX, .ref q_o_joinedY, .int o_joined, .ref q_o_facts, .int 0, .int 0])), (q_o_spotOf, .inl (cI, o_spotOf_n, .inl o_spotOf_f))] H := hP
  have hD : va_D A [(q_o, .inr (6, [.int o_width, .int o_height, .ref q_o_spotOf, .ref q_o_changes, .ref q_o_joinedX, .ref q_o_joinedY, .int o_joined, .ref q_o_facts, .int 0, .int 0])), (q_o_spotOf, .inl (cI, o_spotOf_n, .inl o_spotOf_f))] := hD
  refine lv_iconst (v := 0) hx hb d_Spots_clear_10 (by decide) ?_
  refine lv_istore_n (lv' := [(1, .int 0), (0, .ref q_o)]) hx hb d_Spots_clear_11 rfl hl (by decide) rfl (fun ls hl => ?_)
  obtain ⟨e_1, he_1, hx_1⟩ := pu_bd h
  obtain ⟨n_1, hn_1⟩ := pu_loop_it he_1
  have K_1 : ∀ (y1_4 : Int32) (z5 : Nat → Int32) (H : Heap) (locs : List Loc) (ls : Array Slot), e_1 = (y1_4, z5) → lv_has ls 2 [(1, .int y1_4), (0, .ref q_o)] → va_P (dC, dI) vwCl [(q_o, .inr (6, [.int o_width, .int o_height, .ref q_o_spotOf, .ref q_o_changes, .ref q_o_joinedX, .ref q_o_joinedY, .int o_joined, .ref q_o_facts, .int 0, .int 0])), (q_o_spotOf, .inl (cI, o_spotOf_n, .inl z5))] H → va_D A [(q_o, .inr (6, [.int o_width, .int o_height, .ref q_o_spotOf, .ref q_o_changes, .ref q_o_joinedX, .ref q_o_joinedY, .int o_joined, .ref q_o_facts, .int 0, .int 0])), (q_o_spotOf, .inl (cI, o_spotOf_n, .inl z5))] → va_S A s.heap H locs → W p l e rm_Spots_clear s m args below meth c H locs 0 0 Q (F0 m 34 ls []) := by
    intro y1_4 z5 H locs ls he hl hP hD hS
    have h := hx_1
    rw [he] at h
    try dsimp only at h
    cases h
    refine W.widen (k := 0) (n := 0) (Nat.le_of_ble_eq_true rfl) (Nat.le_of_ble_eq_true rfl) ?_
    exact RT 34 ls H locs _ d_Spots_clear_34 (Or.inl ⟨rfl, rfl⟩) rfl (hP.sub [0, 1] rfl) (hD.sub [0, 1] (by decide) rfl) hS
  have L_1 : ∀ (n : Nat) (x1_2 : Int32) (o_spotOf_f_3 : Nat → Int32) (H : Heap) (locs : List Loc) (ls : Array Slot), pu_it (p_Spots_clear_L1 o_spotOf_n) n (x1_2, o_spotOf_f_3) = some e_1 → lv_has ls 2 [(1, .int x1_2), (0, .ref q_o)] → va_P (dC, dI) vwCl [(q_o, .inr (6, [.int o_width, .int o_height, .ref q_o_spotOf, .ref q_o_changes, .ref q_o_joinedX, .ref q_o_joinedY, .int o_joined, .ref q_o_facts, .int 0, .int 0])), (q_o_spotOf, .inl (cI, o_spotOf_n, .inl o_spotOf_f_3))] H → va_D A [(q_o, .inr (6, [.int o_width, .int o_height, .ref q_o_spotOf, .ref q_o_changes, .ref q_o_joinedX, .ref q_o_joinedY, .int o_joined, .ref q_o_facts, .int 0, .int 0])), (q_o_spotOf, .inl (cI, o_spotOf_n, .inl o_spotOf_f_3))] → va_S A s.heap H locs → W p l e rm_Spots_clear s m args below meth c H locs 0 0 Q (F0 m 12 ls []) := by
    intro n
    induction n with
    | zero => intro x1_2 o_spotOf_f_3 H locs ls hn; exact (pu_it_0 hn).elim
    | succ n ih =>
      intro x1_2 o_spotOf_f_3 H locs ls hn hl hP hD hS
      obtain ⟨r_1, h, hr_1⟩ := pu_it_succ hn
      unfold p_Spots_clear_L1 at h
      try dsimp only at h
      refine lv_iload_n hx hb d_Spots_clear_12 rfl (lv_at hl 0 rfl) ?_
      refine lv_aload_n hx hb d_Spots_clear_13 rfl (lv_at hl 1 rfl) ?_
      refine va_get (D := (dC, dI)) (ci := 6) (v := .ref q_o_spotOf) (C := R_Spots) (T := F_Spots) (N := 10) hx hb hts i_Spots hown hK hP 0 rfl rfl 2 (by decide) (hts _ k_123) (fun _ h9 => h9) rfl d_Spots_clear_14 ?_
      refine va_alen (v := Int32.ofNat o_spotOf_n) hx hb hK hP 1 0 rfl rfl rfl d_Spots_clear_17 ?_
      refine lv_icmp_ge (tgt := 34) hx hb d_Spots_clear_18 (by decide) (fun hc => ?_) (fun hc => ?_)
      · have h := pu_t hc h
        cases h
        exact K_1 x1_2 o_spotOf_f_3 H locs ls hr_1.symm (lv_sub hl [0, 1] rfl) (hP.sub [0, 1] rfl) (hD.sub [0, 1] (by decide) rfl) hS
      · have h := pu_f hc h
        refine lv_aload_n hx hb d_Spots_clear_21 rfl (lv_at hl 1 rfl) ?_
        refine va_get (D := (dC, dI)) (ci := 6) (v := .ref q_o_spotOf) (C := R_Spots) (T := F_Spots) (N := 10) hx hb hts i_Spots hown hK hP 0 rfl rfl 2 (by decide) (hts _ k_123) (fun _ h9 => h9) rfl d_Spots_clear_22 ?_
        refine lv_iload_n hx hb d_Spots_clear_25 rfl (lv_at hl 0 rfl) ?_
        refine lv_iconst (v := (-1)) hx hb d_Spots_clear_26 (by decide) ?_
        obtain ⟨hg, h⟩ := pu_g h
        refine va_iast hx hb hK hP hD hS 1 0 rfl rfl hg d_Spots_clear_27 (fun H locs hP hD hS => ?_)
        have hP : va_P (dC, dI) vwCl [(q_o, .inr (6, [.int o_width, .int o_height, .ref q_o_spotOf, .ref q_o_changes, .ref q_o_joinedX, .ref q_o_joinedY, .int o_joined, .ref q_o_facts, .int 0, .int 0])), (q_o_spotOf, .inl (cI, o_spotOf_n, .inl (upd o_spotOf_f_3 x1_2.toNatClampNeg (-1))))] H := hP
        have hD : va_D A [(q_o, .inr (6, [.int o_width, .int o_height, .ref q_o_spotOf, .ref q_o_changes, .ref q_o_joinedX, .ref q_o_joinedY, .int o_joined, .ref q_o_facts, .int 0, .int 0])), (q_o_spotOf, .inl (cI, o_spotOf_n, .inl (upd o_spotOf_f_3 x1_2.toNatClampNeg (-1))))] := hD
        refine lv_iinc (v := (x1_2 + 1)) (lv' := [(1, .int (x1_2 + 1)), (0, .ref q_o)]) hx hb d_Spots_clear_28 hl (k := 0) rfl rfl (by decide) rfl (fun ls hl => ?_)
        refine lv_goto (tgt := 12) hx hb d_Spots_clear_31 (by decide) ?_
        cases h
        exact ih (x1_2 + 1) (upd o_spotOf_f_3 x1_2.toNatClampNeg (-1)) H locs ls hr_1 (lv_sub hl [0, 1] rfl) (hP.sub [0, 1] rfl) (hD.sub [0, 1] (by decide) rfl) hS
  exact L_1 n_1 0 o_spotOf_f H locs ls hn_1 hl hP hD hS

noncomputable def p_Spots_mark (a1 : Int32) (a2 : Int32) (a3 : Int32) (o_width : Int32) (o_height : Int32) (o_joined : Int32) (o_found : Int32) (o_marked : Int32) (o_spotOf_n : Nat) (o_spotOf_f : Nat → Int32) (o_changes_n : Nat) (o_changes_f : Nat → Int32) : Option (Int32 × (Nat → Int32) × (Nat → Int32)) :=
  pu_gd (vp_in ((a2 * o_width) + a1) o_spotOf_n) (pu_gd (vp_in ((a2 * o_width) + a1) o_changes_n) (some ((o_marked + 1), (upd o_spotOf_f ((a2 * o_width) + a1).toNatClampNeg (-2)), (upd o_changes_f ((a2 * o_width) + a1).toNatClampNeg a3))))
set_option maxHeartbeats 4000000 in
set_option maxRecDepth 100000 in
theorem c_Spots_mark (l : Launch) (dC : Nat → ClassId) (dI : Nat → Nat → Nat) (cI cJ cZ : ClassId) (q_o q_o_spotOf q_o_changes q_o_joinedX q_o_joinedY q_o_facts : Nat) (a1 : Int32) (a2 : Int32) (a3 : Int32) (o_width : Int32) (o_height : Int32) (o_joined : Int32) (o_found : Int32) (o_marked : Int32) (o_spotOf_n : Nat) (o_spotOf_f : Nat → Int32) (o_changes_n : Nat) (o_changes_f : Nat → Int32) (r0 : Int32) (r1 : Nat → Int32) (r2 : Nat → Int32) (h : p_Spots_mark a1 a2 a3 o_width o_height o_joined o_found o_marked o_spotOf_n o_spotOf_f o_changes_n o_changes_f = some (r0, r1, r2)) : ct l y_Spots_mark w_Spots_mark rm_Spots_mark (dC, dI) [(cI, .int), (cJ, .long), (cZ, .boolean)] [.ref q_o, .int a1, .int a2, .int a3] [(q_o, .inr (6, [.int o_width, .int o_height, .ref q_o_spotOf, .ref q_o_changes, .ref q_o_joinedX, .ref q_o_joinedY, .int o_joined, .ref q_o_facts, .int o_found, .int o_marked])), (q_o_spotOf, .inl (cI, o_spotOf_n, .inl o_spotOf_f)), (q_o_changes, .inl (cI, o_changes_n, .inl o_changes_f))] (fun w => w = [(q_o, .inr (6, [.int o_width, .int o_height, .ref q_o_spotOf, .ref q_o_changes, .ref q_o_joinedX, .ref q_o_joinedY, .int o_joined, .ref q_o_facts, .int o_found, .int r0])), (q_o_spotOf, .inl (cI, o_spotOf_n, .inl r1)), (q_o_changes, .inl (cI, o_changes_n, .inl r2))]) none := by
  refine ct_of (cc := b_Spots_mark) (maxL := 4) (ret := none) (lv := [(0, .ref q_o), (1, .int a1), (2, .int a2), (3, .int a3)]) (by decide) rfl rfl rfl ?_
  intro p e s m args below meth c A Q H locs hx hb hml hown hts hin hA hK hN hP hD hS RT ls hl
  unfold p_Spots_mark at h
  refine lv_aload_n hx hb d_Spots_mark_0 rfl (lv_at hl 0 rfl) ?_
  refine va_get (D := (dC, dI)) (ci := 6) (v := .ref q_o_spotOf) (C := R_Spots) (T := F_Spots) (N := 10) hx hb hts i_Spots hown hK hP 0 rfl rfl 2 (by decide) (hts _ k_123) (fun _ h9 => h9) rfl d_Spots_mark_1 ?_
  refine lv_iload_n hx hb d_Spots_mark_4 rfl (lv_at hl 2 rfl) ?_
  refine lv_aload_n hx hb d_Spots_mark_5 rfl (lv_at hl 0 rfl) ?_
  refine va_get (D := (dC, dI)) (ci := 6) (v := .int o_width) (C := R_Spots) (T := F_Spots) (N := 10) hx hb hts i_Spots hown hK hP 0 rfl rfl 0 (by decide) (hts _ k_121) (fun _ h9 => h9) rfl d_Spots_mark_6 ?_
  refine lv_imul hx hb d_Spots_mark_9 ?_
  refine lv_iload_n hx hb d_Spots_mark_10 rfl (lv_at hl 1 rfl) ?_
  refine lv_iadd hx hb d_Spots_mark_11 ?_
  refine lv_bipush (v := (-2)) hx hb d_Spots_mark_12 (by decide) ?_
  obtain ⟨hg, h⟩ := pu_g h
  refine va_iast hx hb hK hP hD hS 1 0 rfl rfl hg d_Spots_mark_14 (fun H locs hP hD hS => ?_)
  have hP : va_P (dC, dI) vwCl [(q_o, .inr (6, [.int o_width, .int o_height, .ref q_o_spotOf, .ref q_o_changes, .ref q_o_joinedX, .ref q_o_joinedY, .int o_joined, .ref q_o_facts, .int o_found, .int o_marked])), (q_o_spotOf, .inl (cI, o_spotOf_n, .inl (upd o_spotOf_f ((a2 * o_width) + a1).toNatClampNeg (-2)))), (q_o_changes, .inl (cI, o_changes_n, .inl o_changes_f))] H := hP
  have hD : va_D A [(q_o, .inr (6, [.int o_width, .int o_height, .ref q_o_spotOf, .ref q_o_changes, .ref q_o_joinedX, .ref q_o_joinedY, .int o_joined, .ref q_o_facts, .int o_found, .int o_marked])), (q_o_spotOf, .inl (cI, o_spotOf_n, .inl (upd o_spotOf_f ((a2 * o_width) + a1).toNatClampNeg (-2)))), (q_o_changes, .inl (cI, o_changes_n, .inl o_changes_f))] := hD
  refine lv_aload_n hx hb d_Spots_mark_15 rfl (lv_at hl 0 rfl) ?_
  refine va_get (D := (dC, dI)) (ci := 6) (v := .ref q_o_changes) (C := R_Spots) (T := F_Spots) (N := 10) hx hb hts i_Spots hown hK hP 0 rfl rfl 3 (by decide) (hts _ k_124) (fun _ h9 => h9) rfl d_Spots_mark_16 ?_
  refine lv_iload_n hx hb d_Spots_mark_19 rfl (lv_at hl 2 rfl) ?_
  refine lv_aload_n hx hb d_Spots_mark_20 rfl (lv_at hl 0 rfl) ?_
  refine va_get (D := (dC, dI)) (ci := 6) (v := .int o_width) (C := R_Spots) (T := F_Spots) (N := 10) hx hb hts i_Spots hown hK hP 0 rfl rfl 0 (by decide) (hts _ k_121) (fun _ h9 => h9) rfl d_Spots_mark_21 ?_
  refine lv_imul hx hb d_Spots_mark_24 ?_
  refine lv_iload_n hx hb d_Spots_mark_25 rfl (lv_at hl 1 rfl) ?_
  refine lv_iadd hx hb d_Spots_mark_26 ?_
  refine lv_iload_n hx hb d_Spots_mark_27 rfl (lv_at hl 3 rfl) ?_
  obtain ⟨hg, h⟩ := pu_g h
  refine va_iast hx hb hK hP hD hS 2 0 rfl rfl hg d_Spots_mark_28 (fun H locs hP hD hS => ?_)
  have hP : va_P (dC, dI) vwCl [(q_o, .inr (6, [.int o_width, .int o_height, .ref q_o_spotOf, .ref q_o_changes, .ref q_o_joinedX, .ref q_o_joinedY, .int o_joined, .ref q_o_facts, .int o_found, .int o_marked])), (q_o_spotOf, .inl (cI, o_spotOf_n, .inl (upd o_spotOf_f ((a2 * o_width) + a1).toNatClampNeg (-2)))), (q_o_changes, .inl (cI, o_changes_n, .inl (upd o_changes_f ((a2 * o_width) + a1).toNatClampNeg a3)))] H := hP
  have hD : va_D A [(q_o, .inr (6, [.int o_width, .int o_height, .ref q_o_spotOf, .ref q_o_changes, .ref q_o_joinedX, .ref q_o_joinedY, .int o_joined, .ref q_o_facts, .int o_found, .int o_marked])), (q_o_spotOf, .inl (cI, o_spotOf_n, .inl (upd o_spotOf_f ((a2 * o_width) + a1).toNatClampNeg (-2)))), (q_o_changes, .inl (cI, o_changes_n, .inl (upd o_changes_f ((a2 * o_width) + a1).toNatClampNeg a3)))] := hD
  refine lv_aload_n hx hb d_Spots_mark_29 rfl (lv_at hl 0 rfl) ?_
  refine lv_dup hx hb d_Spots_mark_30 rfl ?_
  refine va_get (D := (dC, dI)) (ci := 6) (v := .int o_marked) (C := R_Spots) (T := F_Spots) (N := 10) hx hb hts i_Spots hown hK hP 0 rfl rfl 9 (by decide) (hts _ k_131) (fun _ h9 => h9) rfl d_Spots_mark_31 ?_
  refine lv_iconst (v := 1) hx hb d_Spots_mark_34 (by decide) ?_
  refine lv_iadd hx hb d_Spots_mark_35 ?_
  refine va_put (D := (dC, dI)) (ci := 6) (v := .int (o_marked + 1)) (ty := .int) (C := R_Spots) (T := F_Spots) (N := 10) hx hb hts i_Spots t_Spots t_Spots_ok n_Spots hown hK hP hD hS 0 rfl rfl 9 (by decide) (hts _ k_131) (fun _ h9 => h9) rfl (by decide +kernel) rfl rfl (Nat.le_of_ble_eq_true rfl) d_Spots_mark_36 (fun H locs hP hD hS => ?_)
  have hP : va_P (dC, dI) vwCl [(q_o, .inr (6, [.int o_width, .int o_height, .ref q_o_spotOf, .ref q_o_changes, .ref q_o_joinedX, .ref q_o_joinedY, .int o_joined, .ref q_o_facts, .int o_found, .int (o_marked + 1)])), (q_o_spotOf, .inl (cI, o_spotOf_n, .inl (upd o_spotOf_f ((a2 * o_width) + a1).toNatClampNeg (-2)))), (q_o_changes, .inl (cI, o_changes_n, .inl (upd o_changes_f ((a2 * o_width) + a1).toNatClampNeg a3)))] H := hP
  have hD : va_D A [(q_o, .inr (6, [.int o_width, .int o_height, .ref q_o_spotOf, .ref q_o_changes, .ref q_o_joinedX, .ref q_o_joinedY, .int o_joined, .ref q_o_facts, .int o_found, .int (o_marked + 1)])), (q_o_spotOf, .inl (cI, o_spotOf_n, .inl (upd o_spotOf_f ((a2 * o_width) + a1).toNatClampNeg (-2)))), (q_o_changes, .inl (cI, o_changes_n, .inl (upd o_changes_f ((a2 * o_width) + a1).toNatClampNeg a3)))] := hD
  cases h
  refine W.widen (k := 0) (n := 0) (Nat.le_of_ble_eq_true rfl) (Nat.le_of_ble_eq_true rfl) ?_
  exact RT 39 ls H locs _ d_Spots_mark_39 (Or.inl ⟨rfl, rfl⟩) rfl (hP.sub [0, 1, 2] rfl) (hD.sub [0, 1, 2] (by decide) rfl) hS

noncomputable def p_Spots_spotAt (a1 : Int32) (a2 : Int32) (o_width : Int32) (o_height : Int32) (o_joined : Int32) (o_found : Int32) (o_marked : Int32) (o_spotOf_n : Nat) (o_spotOf_f : Nat → Int32) : Option (Int32) :=
  (if a1 < 0 then some (-1) else (if o_width ≤ a1 then some (-1) else (if a2 < 0 then some (-1) else (if o_height ≤ a2 then some (-1) else pu_gd (vp_in ((a2 * o_width) + a1) o_spotOf_n) (some (o_spotOf_f ((a2 * o_width) + a1).toNatClampNeg))))))
set_option maxHeartbeats 4000000 in
set_option maxRecDepth 100000 in
theorem c_Spots_spotAt (l : Launch) (dC : Nat → ClassId) (dI : Nat → Nat → Nat) (cI cJ cZ : ClassId) (q_o q_o_spotOf q_o_changes q_o_joinedX q_o_joinedY q_o_facts : Nat) (a1 : Int32) (a2 : Int32) (o_width : Int32) (o_height : Int32) (o_joined : Int32) (o_found : Int32) (o_marked : Int32) (o_spotOf_n : Nat) (o_spotOf_f : Nat → Int32) (r0 : Int32) (h : p_Spots_spotAt a1 a2 o_width o_height o_joined o_found o_marked o_spotOf_n o_spotOf_f = some r0) : ct l y_Spots_spotAt w_Spots_spotAt rm_Spots_spotAt (dC, dI) [(cI, .int), (cJ, .long), (cZ, .boolean)] [.ref q_o, .int a1, .int a2] [(q_o, .inr (6, [.int o_width, .int o_height, .ref q_o_spotOf, .ref q_o_changes, .ref q_o_joinedX, .ref q_o_joinedY, .int o_joined, .ref q_o_facts, .int o_found, .int o_marked])), (q_o_spotOf, .inl (cI, o_spotOf_n, .inl o_spotOf_f))] (fun w => w = [(q_o, .inr (6, [.int o_width, .int o_height, .ref q_o_spotOf, .ref q_o_changes, .ref q_o_joinedX, .ref q_o_joinedY, .int o_joined, .ref q_o_facts, .int o_found, .int o_marked])), (q_o_spotOf, .inl (cI, o_spotOf_n, .inl o_spotOf_f))]) (some (.int r0)) := by
  refine ct_of (cc := b_Spots_spotAt) (maxL := 3) (ret := (some .int)) (lv := [(0, .ref q_o), (1, .int a1), (2, .int a2)]) (by decide) rfl rfl rfl ?_
  intro p e s m args below meth c A Q H locs hx hb hml hown hts hin hA hK hN hP hD hS RT ls hl
  unfold p_Spots_spotAt at h
  refine lv_iload_n hx hb d_Spots_spotAt_0 rfl (lv_at hl 1 rfl) ?_
  refine lv_if_lt (tgt := 40) hx hb d_Spots_spotAt_1 (by decide) (fun hc => ?_) (fun hc => ?_)
  · have h := pu_t hc h
    refine lv_iconst (v := (-1)) hx hb d_Spots_spotAt_40 (by decide) ?_
    cases h
    refine W.widen (k := 0) (n := 0) (Nat.le_of_ble_eq_true rfl) (Nat.le_of_ble_eq_true rfl) ?_
    exact RT 41 ls H locs _ d_Spots_spotAt_41 (Or.inr (Or.inl ⟨rfl, _, rfl⟩)) rfl (hP.sub [0, 1] rfl) (hD.sub [0, 1] (by decide) rfl) hS
  · have h := pu_f hc h
    refine lv_iload_n hx hb d_Spots_spotAt_4 rfl (lv_at hl 1 rfl) ?_
    refine lv_aload_n hx hb d_Spots_spotAt_5 rfl (lv_at hl 0 rfl) ?_
    refine va_get (D := (dC, dI)) (ci := 6) (v := .int o_width) (C := R_Spots) (T := F_Spots) (N := 10) hx hb hts i_Spots hown hK hP 0 rfl rfl 0 (by decide) (hts _ k_121) (fun _ h9 => h9) rfl d_Spots_spotAt_6 ?_
    refine lv_icmp_ge (tgt := 40) hx hb d_Spots_spotAt_9 (by decide) (fun hc => ?_) (fun hc => ?_)
    · have h := pu_t hc h
      refine lv_iconst (v := (-1)) hx hb d_Spots_spotAt_40 (by decide) ?_
      cases h
      refine W.widen (k := 0) (n := 0) (Nat.le_of_ble_eq_true rfl) (Nat.le_of_ble_eq_true rfl) ?_
      exact RT 41 ls H locs _ d_Spots_spotAt_41 (Or.inr (Or.inl ⟨rfl, _, rfl⟩)) rfl (hP.sub [0, 1] rfl) (hD.sub [0, 1] (by decide) rfl) hS
    · have h := pu_f hc h
      refine lv_iload_n hx hb d_Spots_spotAt_12 rfl (lv_at hl 2 rfl) ?_
      refine lv_if_lt (tgt := 40) hx hb d_Spots_spotAt_13 (by decide) (fun hc => ?_) (fun hc => ?_)
      · have h := pu_t hc h
        refine lv_iconst (v := (-1)) hx hb d_Spots_spotAt_40 (by decide) ?_
        cases h
        refine W.widen (k := 0) (n := 0) (Nat.le_of_ble_eq_true rfl) (Nat.le_of_ble_eq_true rfl) ?_
        exact RT 41 ls H locs _ d_Spots_spotAt_41 (Or.inr (Or.inl ⟨rfl, _, rfl⟩)) rfl (hP.sub [0, 1] rfl) (hD.sub [0, 1] (by decide) rfl) hS
      · have h := pu_f hc h
        refine lv_iload_n hx hb d_Spots_spotAt_16 rfl (lv_at hl 2 rfl) ?_
        refine lv_aload_n hx hb d_Spots_spotAt_17 rfl (lv_at hl 0 rfl) ?_
        refine va_get (D := (dC, dI)) (ci := 6) (v := .int o_height) (C := R_Spots) (T := F_Spots) (N := 10) hx hb hts i_Spots hown hK hP 0 rfl rfl 1 (by decide) (hts _ k_122) (fun _ h9 => h9) rfl d_Spots_spotAt_18 ?_
        refine lv_icmp_ge (tgt := 40) hx hb d_Spots_spotAt_21 (by decide) (fun hc => ?_) (fun hc => ?_)
        · have h := pu_t hc h
          refine lv_iconst (v := (-1)) hx hb d_Spots_spotAt_40 (by decide) ?_
          cases h
          refine W.widen (k := 0) (n := 0) (Nat.le_of_ble_eq_true rfl) (Nat.le_of_ble_eq_true rfl) ?_
          exact RT 41 ls H locs _ d_Spots_spotAt_41 (Or.inr (Or.inl ⟨rfl, _, rfl⟩)) rfl (hP.sub [0, 1] rfl) (hD.sub [0, 1] (by decide) rfl) hS
        · have h := pu_f hc h
          refine lv_aload_n hx hb d_Spots_spotAt_24 rfl (lv_at hl 0 rfl) ?_
          refine va_get (D := (dC, dI)) (ci := 6) (v := .ref q_o_spotOf) (C := R_Spots) (T := F_Spots) (N := 10) hx hb hts i_Spots hown hK hP 0 rfl rfl 2 (by decide) (hts _ k_123) (fun _ h9 => h9) rfl d_Spots_spotAt_25 ?_
          refine lv_iload_n hx hb d_Spots_spotAt_28 rfl (lv_at hl 2 rfl) ?_
          refine lv_aload_n hx hb d_Spots_spotAt_29 rfl (lv_at hl 0 rfl) ?_
          refine va_get (D := (dC, dI)) (ci := 6) (v := .int o_width) (C := R_Spots) (T := F_Spots) (N := 10) hx hb hts i_Spots hown hK hP 0 rfl rfl 0 (by decide) (hts _ k_121) (fun _ h9 => h9) rfl d_Spots_spotAt_30 ?_
          refine lv_imul hx hb d_Spots_spotAt_33 ?_
          refine lv_iload_n hx hb d_Spots_spotAt_34 rfl (lv_at hl 1 rfl) ?_
          refine lv_iadd hx hb d_Spots_spotAt_35 ?_
          obtain ⟨hg, h⟩ := pu_g h
          refine va_iald hx hb hK hP 1 0 rfl rfl hg d_Spots_spotAt_36 ?_
          refine lv_goto (tgt := 41) hx hb d_Spots_spotAt_37 (by decide) ?_
          cases h
          refine W.widen (k := 0) (n := 0) (Nat.le_of_ble_eq_true rfl) (Nat.le_of_ble_eq_true rfl) ?_
          exact RT 41 ls H locs _ d_Spots_spotAt_41 (Or.inr (Or.inl ⟨rfl, _, rfl⟩)) rfl (hP.sub [0, 1] rfl) (hD.sub [0, 1] (by decide) rfl) hS

noncomputable def p_Spots_take (a1 : Int32) (a2 : Int32) (o_width : Int32) (o_height : Int32) (o_joined : Int32) (o_found : Int32) (o_marked : Int32) (o_spotOf_n : Nat) (o_spotOf_f : Nat → Int32) (o_joinedX_n : Nat) (o_joinedX_f : Nat → Int32) (o_joinedY_n : Nat) (o_joinedY_f : Nat → Int32) : Option (Int32 × (Nat → Int32) × (Nat → Int32) × (Nat → Int32)) :=
  (p_Spots_spotAt a1 a2 o_width o_height o_joined o_found o_marked o_spotOf_n o_spotOf_f).bind (fun (v1 : Int32) => (if v1 = (-2) then (if (Int32.ofNat o_joinedX_n) ≤ o_joined then some (o_joined, o_spotOf_f, o_joinedX_f, o_joinedY_f) else pu_gd (vp_in ((a2 * o_width) + a1) o_spotOf_n) (pu_gd (vp_in o_joined o_joinedX_n) (pu_gd (vp_in o_joined o_joinedY_n) (some ((o_joined + 1), (upd o_spotOf_f ((a2 * o_width) + a1).toNatClampNeg o_found), (upd o_joinedX_f o_joined.toNatClampNeg a1), (upd o_joinedY_f o_joined.toNatClampNeg a2)))))) else some (o_joined, o_spotOf_f, o_joinedX_f, o_joinedY_f)))
set_option maxHeartbeats 4000000 in
set_option maxRecDepth 100000 in
theorem c_Spots_take (l : Launch) (dC : Nat → ClassId) (dI : Nat → Nat → Nat) (cI cJ cZ : ClassId) (q_o q_o_spotOf q_o_changes q_o_joinedX q_o_joinedY q_o_facts : Nat) (a1 : Int32) (a2 : Int32) (o_width : Int32) (o_height : Int32) (o_joined : Int32) (o_found : Int32) (o_marked : Int32) (o_spotOf_n : Nat) (o_spotOf_f : Nat → Int32) (o_joinedX_n : Nat) (o_joinedX_f : Nat → Int32) (o_joinedY_n : Nat) (o_joinedY_f : Nat → Int32) (r0 : Int32) (r1 : Nat → Int32) (r2 : Nat → Int32) (r3 : Nat → Int32) (h : p_Spots_take a1 a2 o_width o_height o_joined o_found o_marked o_spotOf_n o_spotOf_f o_joinedX_n o_joinedX_f o_joinedY_n o_joinedY_f = some (r0, r1, r2, r3)) : ct l y_Spots_take w_Spots_take rm_Spots_take (dC, dI) [(cI, .int), (cJ, .long), (cZ, .boolean)] [.ref q_o, .int a1, .int a2] [(q_o, .inr (6, [.int o_width, .int o_height, .ref q_o_spotOf, .ref q_o_changes, .ref q_o_joinedX, .ref q_o_joinedY, .int o_joined, .ref q_o_facts, .int o_found, .int o_marked])), (q_o_spotOf, .inl (cI, o_spotOf_n, .inl o_spotOf_f)), (q_o_joinedX, .inl (cI, o_joinedX_n, .inl o_joinedX_f)), (q_o_joinedY, .inl (cI, o_joinedY_n, .inl o_joinedY_f))] (fun w => w = [(q_o, .inr (6, [.int o_width, .int o_height, .ref q_o_spotOf, .ref q_o_changes, .ref q_o_joinedX, .ref q_o_joinedY, .int r0, .ref q_o_facts, .int o_found, .int o_marked])), (q_o_spotOf, .inl (cI, o_spotOf_n, .inl r1)), (q_o_joinedX, .inl (cI, o_joinedX_n, .inl r2)), (q_o_joinedY, .inl (cI, o_joinedY_n, .inl r3))]) none := by
  refine ct_of (cc := b_Spots_take) (maxL := 3) (ret := none) (lv := [(0, .ref q_o), (1, .int a1), (2, .int a2)]) (by decide) rfl rfl rfl ?_
  intro p e s m args below meth c A Q H locs hx hb hml hown hts hin hA hK hN hP hD hS RT ls hl
  unfold p_Spots_take at h
  refine lv_aload_n hx hb d_Spots_take_0 rfl (lv_at hl 0 rfl) ?_
  refine lv_iload_n hx hb d_Spots_take_1 rfl (lv_at hl 1 rfl) ?_
  refine lv_iload_n hx hb d_Spots_take_2 rfl (lv_at hl 2 rfl) ?_
  obtain ⟨v1, hu1, h⟩ := pu_bd h
  refine cc_V (As := [.int a1, .int a2]) (rest := []) ⟨hx, hb, hml, hown, hts⟩ (c_Spots_spotAt l dC dI cI cJ cZ q_o q_o_spotOf q_o_changes q_o_joinedX q_o_joinedY q_o_facts a1 a2 o_width o_height o_joined o_found o_marked o_spotOf_n o_spotOf_f v1 hu1) (cwV 2 hts (gV k_268 k_269 k_270 k_7 k_271 rfl) rfl rfl rfl hdV_Spots_spotAt ⟨Nat.le_of_ble_eq_true rfl, Nat.le_of_ble_eq_true rfl⟩) hK hN hP hD hS hA [0, 1] [2, 3] (w0 := [(q_o, .inr (6, [.int o_width, .int o_height, .ref q_o_spotOf, .ref q_o_changes, .ref q_o_joinedX, .ref q_o_joinedY, .int o_joined, .ref q_o_facts, .int o_found, .int o_marked])), (q_o_spotOf, .inl (cI, o_spotOf_n, .inl o_spotOf_f))]) (wr := [(q_o_joinedX, .inl (cI, o_joinedX_n, .inl o_joinedX_f)), (q_o_joinedY, .inl (cI, o_joinedY_n, .inl o_joinedY_f))]) rfl rfl (by decide) (by decide) (by decide) 6 rfl rfl rfl hl.1 rfl (Nat.le_of_ble_eq_true rfl) d_Spots_take_3 ⟨Nat.le_of_ble_eq_true rfl, Nat.le_of_ble_eq_true rfl⟩ (fun w1 H locs hw1 hP hD hS => ?_)
  subst hw1
  have hP : va_P (dC, dI) vwCl [(q_o_joinedX, .inl (cI, o_joinedX_n, .inl o_joinedX_f)), (q_o_joinedY, .inl (cI, o_joinedY_n, .inl o_joinedY_f)), (q_o, .inr (6, [.int o_width, .int o_height, .ref q_o_spotOf, .ref q_o_changes, .ref q_o_joinedX, .ref q_o_joinedY, .int o_joined, .ref q_o_facts, .int o_found, .int o_marked])), (q_o_spotOf, .inl (cI, o_spotOf_n, .inl o_spotOf_f))] H := hP
  have hD : va_D A [(q_o_joinedX, .inl (cI, o_joinedX_n, .inl o_joinedX_f)), (q_o_joinedY, .inl (cI, o_joinedY_n, .inl o_joinedY_f)), (q_o, .inr (6, [.int o_width, .int o_height, .ref q_o_spotOf, .ref q_o_changes, .ref q_o_joinedX, .ref q_o_joinedY, .int o_joined, .ref q_o_facts, .int o_found, .int o_marked])), (q_o_spotOf, .inl (cI, o_spotOf_n, .inl o_spotOf_f))] := hD
  refine lv_bipush (v := (-2)) hx hb d_Spots_take_6 (by decide) ?_
  refine lv_icmp_ne (tgt := 70) hx hb d_Spots_take_8 (by decide) (fun hc => ?_) (fun hc => ?_)
  · have h := pu_f hc h
    cases h
    refine W.widen (k := 0) (n := 0) (Nat.le_of_ble_eq_true rfl) (Nat.le_of_ble_eq_true rfl) ?_
    exact RT 70 ls H locs _ d_Spots_take_70 (Or.inl ⟨rfl, rfl⟩) rfl (hP.sub [2, 3, 0, 1] rfl) (hD.sub [2, 3, 0, 1] (by decide) rfl) hS
  · have h := pu_t hc h
    refine lv_aload_n hx hb d_Spots_take_11 rfl (lv_at hl 0 rfl) ?_
    refine va_get (D := (dC, dI)) (ci := 6) (v := .int o_joined) (C := R_Spots) (T := F_Spots) (N := 10) hx hb hts i_Spots hown hK hP 2 rfl rfl 6 (by decide) (hts _ k_127) (fun _ h9 => h9) rfl d_Spots_take_12 ?_
    refine lv_aload_n hx hb d_Spots_take_15 rfl (lv_at hl 0 rfl) ?_
    refine va_get (D := (dC, dI)) (ci := 6) (v := .ref q_o_joinedX) (C := R_Spots) (T := F_Spots) (N := 10) hx hb hts i_Spots hown hK hP 2 rfl rfl 4 (by decide) (hts _ k_125) (fun _ h9 => h9) rfl d_Spots_take_16 ?_
    refine va_alen (v := Int32.ofNat o_joinedX_n) hx hb hK hP 0 0 rfl rfl rfl d_Spots_take_19 ?_
    refine lv_icmp_ge (tgt := 70) hx hb d_Spots_take_20 (by decide) (fun hc => ?_) (fun hc => ?_)
    · have h := pu_t hc h
      cases h
      refine W.widen (k := 0) (n := 0) (Nat.le_of_ble_eq_true rfl) (Nat.le_of_ble_eq_true rfl) ?_
      exact RT 70 ls H locs _ d_Spots_take_70 (Or.inl ⟨rfl, rfl⟩) rfl (hP.sub [2, 3, 0, 1] rfl) (hD.sub [2, 3, 0, 1] (by decide) rfl) hS
    · have h := pu_f hc h
      refine lv_aload_n hx hb d_Spots_take_23 rfl (lv_at hl 0 rfl) ?_
      refine va_get (D := (dC, dI)) (ci := 6) (v := .ref q_o_spotOf) (C := R_Spots) (T := F_Spots) (N := 10) hx hb hts i_Spots hown hK hP 2 rfl rfl 2 (by decide) (hts _ k_123) (fun _ h9 => h9) rfl d_Spots_take_24 ?_
      refine lv_iload_n hx hb d_Spots_take_27 rfl (lv_at hl 2 rfl) ?_
      refine lv_aload_n hx hb d_Spots_take_28 rfl (lv_at hl 0 rfl) ?_
      refine va_get (D := (dC, dI)) (ci := 6) (v := .int o_width) (C := R_Spots) (T := F_Spots) (N := 10) hx hb hts i_Spots hown hK hP 2 rfl rfl 0 (by decide) (hts _ k_121) (fun _ h9 => h9) rfl d_Spots_take_29 ?_
      refine lv_imul hx hb d_Spots_take_32 ?_
      refine lv_iload_n hx hb d_Spots_take_33 rfl (lv_at hl 1 rfl) ?_
      refine lv_iadd hx hb d_Spots_take_34 ?_
      refine lv_aload_n hx hb d_Spots_take_35 rfl (lv_at hl 0 rfl) ?_
      refine va_get (D := (dC, dI)) (ci := 6) (v := .int o_found) (C := R_Spots) (T := F_Spots) (N := 10) hx hb hts i_Spots hown hK hP 2 rfl rfl 8 (by decide) (hts _ k_129) (fun _ h9 => h9) rfl d_Spots_take_36 ?_
      obtain ⟨hg, h⟩ := pu_g h
      refine va_iast hx hb hK hP hD hS 3 0 rfl rfl hg d_Spots_take_39 (fun H locs hP hD hS => ?_)
      have hP : va_P (dC, dI) vwCl [(q_o_joinedX, .inl (cI, o_joinedX_n, .inl o_joinedX_f)), (q_o_joinedY, .inl (cI, o_joinedY_n, .inl o_joinedY_f)), (q_o, .inr (6, [.int o_width, .int o_height, .ref q_o_spotOf, .ref q_o_changes, .ref q_o_joinedX, .ref q_o_joinedY, .int o_joined, .ref q_o_facts, .int o_found, .int o_marked])), (q_o_spotOf, .inl (cI, o_spotOf_n, .inl (upd o_spotOf_f ((a2 * o_width) + a1).toNatClampNeg o_found)))] H := hP
      have hD : va_D A [(q_o_joinedX, .inl (cI, o_joinedX_n, .inl o_joinedX_f)), (q_o_joinedY, .inl (cI, o_joinedY_n, .inl o_joinedY_f)), (q_o, .inr (6, [.int o_width, .int o_height, .ref q_o_spotOf, .ref q_o_changes, .ref q_o_joinedX, .ref q_o_joinedY, .int o_joined, .ref q_o_facts, .int o_found, .int o_marked])), (q_o_spotOf, .inl (cI, o_spotOf_n, .inl (upd o_spotOf_f ((a2 * o_width) + a1).toNatClampNeg o_found)))] := hD
      refine lv_aload_n hx hb d_Spots_take_40 rfl (lv_at hl 0 rfl) ?_
      refine va_get (D := (dC, dI)) (ci := 6) (v := .ref q_o_joinedX) (C := R_Spots) (T := F_Spots) (N := 10) hx hb hts i_Spots hown hK hP 2 rfl rfl 4 (by decide) (hts _ k_125) (fun _ h9 => h9) rfl d_Spots_take_41 ?_
      refine lv_aload_n hx hb d_Spots_take_44 rfl (lv_at hl 0 rfl) ?_
      refine va_get (D := (dC, dI)) (ci := 6) (v := .int o_joined) (C := R_Spots) (T := F_Spots) (N := 10) hx hb hts i_Spots hown hK hP 2 rfl rfl 6 (by decide) (hts _ k_127) (fun _ h9 => h9) rfl d_Spots_take_45 ?_
      refine lv_iload_n hx hb d_Spots_take_48 rfl (lv_at hl 1 rfl) ?_
      obtain ⟨hg, h⟩ := pu_g h
      refine va_iast hx hb hK hP hD hS 0 0 rfl rfl hg d_Spots_take_49 (fun H locs hP hD hS => ?_)
      have hP : va_P (dC, dI) vwCl [(q_o_joinedX, .inl (cI, o_joinedX_n, .inl (upd o_joinedX_f o_joined.toNatClampNeg a1))), (q_o_joinedY, .inl (cI, o_joinedY_n, .inl o_joinedY_f)), (q_o, .inr (6, [.int o_width, .int o_height, .ref q_o_spotOf, .ref q_o_changes, .ref q_o_joinedX, .ref q_o_joinedY, .int o_joined, .ref q_o_facts, .int o_found, .int o_marked])), (q_o_spotOf, .inl (cI, o_spotOf_n, .inl (upd o_spotOf_f ((a2 * o_width) + a1).toNatClampNeg o_found)))] H := hP
      have hD : va_D A [(q_o_joinedX, .inl (cI, o_joinedX_n, .inl (upd o_joinedX_f o_joined.toNatClampNeg a1))), (q_o_joinedY, .inl (cI, o_joinedY_n, .inl o_joinedY_f)), (q_o, .inr (6, [.int o_width, .int o_height, .ref q_o_spotOf, .ref q_o_changes, .ref q_o_joinedX, .ref q_o_joinedY, .int o_joined, .ref q_o_facts, .int o_found, .int o_marked])), (q_o_spotOf, .inl (cI, o_spotOf_n, .inl (upd o_spotOf_f ((a2 * o_width) + a1).toNatClampNeg o_found)))] := hD
      refine lv_aload_n hx hb d_Spots_take_50 rfl (lv_at hl 0 rfl) ?_
      refine va_get (D := (dC, dI)) (ci := 6) (v := .ref q_o_joinedY) (C := R_Spots) (T := F_Spots) (N := 10) hx hb hts i_Spots hown hK hP 2 rfl rfl 5 (by decide) (hts _ k_126) (fun _ h9 => h9) rfl d_Spots_take_51 ?_
      refine lv_aload_n hx hb d_Spots_take_54 rfl (lv_at hl 0 rfl) ?_
      refine va_get (D := (dC, dI)) (ci := 6) (v := .int o_joined) (C := R_Spots) (T := F_Spots) (N := 10) hx hb hts i_Spots hown hK hP 2 rfl rfl 6 (by decide) (hts _ k_127) (fun _ h9 => h9) rfl d_Spots_take_55 ?_
      refine lv_iload_n hx hb d_Spots_take_58 rfl (lv_at hl 2 rfl) ?_
      obtain ⟨hg, h⟩ := pu_g h
      refine va_iast hx hb hK hP hD hS 1 0 rfl rfl hg d_Spots_take_59 (fun H locs hP hD hS => ?_)
      have hP : va_P (dC, dI) vwCl [(q_o_joinedX, .inl (cI, o_joinedX_n, .inl (upd o_joinedX_f o_joined.toNatClampNeg a1))), (q_o_joinedY, .inl (cI, o_joinedY_n, .inl (upd o_joinedY_f o_joined.toNatClampNeg a2))), (q_o, .inr (6, [.int o_width, .int o_height, .ref q_o_spotOf, .ref q_o_changes, .ref q_o_joinedX, .ref q_o_joinedY, .int o_joined, .ref q_o_facts, .int o_found, .int o_marked])), (q_o_spotOf, .inl (cI, o_spotOf_n, .inl (upd o_spotOf_f ((a2 * o_width) + a1).toNatClampNeg o_found)))] H := hP
      have hD : va_D A [(q_o_joinedX, .inl (cI, o_joinedX_n, .inl (upd o_joinedX_f o_joined.toNatClampNeg a1))), (q_o_joinedY, .inl (cI, o_joinedY_n, .inl (upd o_joinedY_f o_joined.toNatClampNeg a2))), (q_o, .inr (6, [.int o_width, .int o_height, .ref q_o_spotOf, .ref q_o_changes, .ref q_o_joinedX, .ref q_o_joinedY, .int o_joined, .ref q_o_facts, .int o_found, .int o_marked])), (q_o_spotOf, .inl (cI, o_spotOf_n, .inl (upd o_spotOf_f ((a2 * o_width) + a1).toNatClampNeg o_found)))] := hD
      refine lv_aload_n hx hb d_Spots_take_60 rfl (lv_at hl 0 rfl) ?_
      refine lv_dup hx hb d_Spots_take_61 rfl ?_
      refine va_get (D := (dC, dI)) (ci := 6) (v := .int o_joined) (C := R_Spots) (T := F_Spots) (N := 10) hx hb hts i_Spots hown hK hP 2 rfl rfl 6 (by decide) (hts _ k_127) (fun _ h9 => h9) rfl d_Spots_take_62 ?_
      refine lv_iconst (v := 1) hx hb d_Spots_take_65 (by decide) ?_
      refine lv_iadd hx hb d_Spots_take_66 ?_
      refine va_put (D := (dC, dI)) (ci := 6) (v := .int (o_joined + 1)) (ty := .int) (C := R_Spots) (T := F_Spots) (N := 10) hx hb hts i_Spots t_Spots t_Spots_ok n_Spots hown hK hP hD hS 2 rfl rfl 6 (by decide) (hts _ k_127) (fun _ h9 => h9) rfl (by decide +kernel) rfl rfl (Nat.le_of_ble_eq_true rfl) d_Spots_take_67 (fun H locs hP hD hS => ?_)
      have hP : va_P (dC, dI) vwCl [(q_o_joinedX, .inl (cI, o_joinedX_n, .inl (upd o_joinedX_f o_joined.toNatClampNeg a1))), (q_o_joinedY, .inl (cI, o_joinedY_n, .inl (upd o_joinedY_f o_joined.toNatClampNeg a2))), (q_o, .inr (6, [.int o_width, .int o_height, .ref q_o_spotOf, .ref q_o_changes, .ref q_o_joinedX, .ref q_o_joinedY, .int (o_joined + 1), .ref q_o_facts, .int o_found, .int o_marked])), (q_o_spotOf, .inl (cI, o_spotOf_n, .inl (upd o_spotOf_f ((a2 * o_width) + a1).toNatClampNeg o_found)))] H := hP
      have hD : va_D A [(q_o_joinedX, .inl (cI, o_joinedX_n, .inl (upd o_joinedX_f o_joined.toNatClampNeg a1))), (q_o_joinedY, .inl (cI, o_joinedY_n, .inl (upd o_joinedY_f o_joined.toNatClampNeg a2))), (q_o, .inr (6, [.int o_width, .int o_height, .ref q_o_spotOf, .ref q_o_changes, .ref q_o_joinedX, .ref q_o_joinedY, .int (o_joined + 1), .ref q_o_facts, .int o_found, .int o_marked])), (q_o_spotOf, .inl (cI, o_spotOf_n, .inl (upd o_spotOf_f ((a2 * o_width) + a1).toNatClampNeg o_found)))] := hD
      cases h
      refine W.widen (k := 0) (n := 0) (Nat.le_of_ble_eq_true rfl) (Nat.le_of_ble_eq_true rfl) ?_
      exact RT 70 ls H locs _ d_Spots_take_70 (Or.inl ⟨rfl, rfl⟩) rfl (hP.sub [2, 3, 0, 1] rfl) (hD.sub [2, 3, 0, 1] (by decide) rfl) hS

noncomputable def p_Spots_joinFrom_L2 (o_width : Int32) (o_height : Int32) (o_found : Int32) (o_marked : Int32) (o_spotOf_n : Nat) (o_joinedX_n : Nat) (o_joinedY_n : Nat) : (Int32 × Int32 × (Nat → Int32) × (Nat → Int32) × (Nat → Int32)) → Option ((Int32 × Int32 × (Nat → Int32) × (Nat → Int32) × (Nat → Int32)) ⊕ (Int32 × Int32 × (Nat → Int32) × (Nat → Int32) × (Nat → Int32))) := fun ((x3_3, o_joined_4, o_spotOf_f_5, o_joinedX_f_6, o_joinedY_f_7) : Int32 × Int32 × (Nat → Int32) × (Nat → Int32) × (Nat → Int32)) =>
  (if o_joined_4 ≤ x3_3 then some (.inr (x3_3, o_joined_4, o_spotOf_f_5, o_joinedX_f_6, o_joinedY_f_7)) else (if (Int32.ofNat o_joinedX_n) ≤ x3_3 then some (.inr (x3_3, o_joined_4, o_spotOf_f_5, o_joinedX_f_6, o_joinedY_f_7)) else pu_gd (vp_in x3_3 o_joinedX_n) (pu_gd (vp_in x3_3 o_joinedY_n) ((p_Spots_take (o_joinedX_f_6 x3_3.toNatClampNeg) ((o_joinedY_f_7 x3_3.toNatClampNeg) - 1) o_width o_height o_joined_4 o_found o_marked o_spotOf_n o_spotOf_f_5 o_joinedX_n o_joinedX_f_6 o_joinedY_n o_joinedY_f_7).bind (fun ((u8_0, u8_1, u8_2, u8_3) : Int32 × (Nat → Int32) × (Nat → Int32) × (Nat → Int32)) => pu_gd (vp_in x3_3 o_joinedX_n) (pu_gd (vp_in x3_3 o_joinedY_n) ((p_Spots_take ((u8_2 x3_3.toNatClampNeg) - 1) (u8_3 x3_3.toNatClampNeg) o_width o_height u8_0 o_found o_marked o_spotOf_n u8_1 o_joinedX_n u8_2 o_joinedY_n u8_3).bind (fun ((u9_0, u9_1, u9_2, u9_3) : Int32 × (Nat → Int32) × (Nat → Int32) × (Nat → Int32)) => pu_gd (vp_in x3_3 o_joinedX_n) (pu_gd (vp_in x3_3 o_joinedY_n) ((p_Spots_take ((u9_2 x3_3.toNatClampNeg) + 1) (u9_3 x3_3.toNatClampNeg) o_width o_height u9_0 o_found o_marked o_spotOf_n u9_1 o_joinedX_n u9_2 o_joinedY_n u9_3).bind (fun ((u10_0, u10_1, u10_2, u10_3) : Int32 × (Nat → Int32) × (Nat → Int32) × (Nat → Int32)) => pu_gd (vp_in x3_3 o_joinedX_n) (pu_gd (vp_in x3_3 o_joinedY_n) ((p_Spots_take (u10_2 x3_3.toNatClampNeg) ((u10_3 x3_3.toNatClampNeg) + 1) o_width o_height u10_0 o_found o_marked o_spotOf_n u10_1 o_joinedX_n u10_2 o_joinedY_n u10_3).bind (fun ((u11_0, u11_1, u11_2, u11_3) : Int32 × (Nat → Int32) × (Nat → Int32) × (Nat → Int32)) => some (.inl ((x3_3 + 1), u11_0, u11_1, u11_2, u11_3))))))))))))))))
noncomputable def p_Spots_joinFrom (a1 : Int32) (a2 : Int32) (o_width : Int32) (o_height : Int32) (o_joined : Int32) (o_found : Int32) (o_marked : Int32) (o_spotOf_n : Nat) (o_spotOf_f : Nat → Int32) (o_joinedX_n : Nat) (o_joinedX_f : Nat → Int32) (o_joinedY_n : Nat) (o_joinedY_f : Nat → Int32) : Option (Int32 × (Nat → Int32) × (Nat → Int32) × (Nat → Int32)) :=
  (p_Spots_take a1 a2 o_width o_height 0 o_found o_marked o_spotOf_n o_spotOf_f o_joinedX_n o_joinedX_f o_joinedY_n o_joinedY_f).bind (fun ((u1_0, u1_1, u1_2, u1_3) : Int32 × (Nat → Int32) × (Nat → Int32) × (Nat → Int32)) => (pu_loop (p_Spots_joinFrom_L2 o_width o_height o_found o_marked o_spotOf_n o_joinedX_n o_joinedY_n) (0, u1_0, u1_1, u1_2, u1_3)).bind (fun ((y3_12, z13, z14, z15, z16) : Int32 × Int32 × (Nat → Int32) × (Nat → Int32) × (Nat → Int32)) => some (z13, z14, z15, z16)))
set_option maxHeartbeats 4000000 in
set_option maxRecDepth 100000 in
theorem c_Spots_joinFrom (l : Launch) (dC : Nat → ClassId) (dI : Nat → Nat → Nat) (cI cJ cZ : ClassId) (q_o q_o_spotOf q_o_changes q_o_joinedX q_o_joinedY q_o_facts : Nat) (a1 : Int32) (a2 : Int32) (o_width : Int32) (o_height : Int32) (o_joined : Int32) (o_found : Int32) (o_marked : Int32) (o_spotOf_n : Nat) (o_spotOf_f : Nat → Int32) (o_joinedX_n : Nat) (o_joinedX_f : Nat → Int32) (o_joinedY_n : Nat) (o_joinedY_f : Nat → Int32) (r0 : Int32) (r1 : Nat → Int32) (r2 : Nat → Int32) (r3 : Nat → Int32) (h : p_Spots_joinFrom a1 a2 o_width o_height o_joined o_found o_marked o_spotOf_n o_spotOf_f o_joinedX_n o_joinedX_f o_joinedY_n o_joinedY_f = some (r0, r1, r2, r3)) : ct l y_Spots_joinFrom w_Spots_joinFrom rm_Spots_joinFrom (dC, dI) [(cI, .int), (cJ, .long), (cZ, .boolean)] [.ref q_o, .int a1, .int a2] [(q_o, .inr (6, [.int o_width, .int o_height, .ref q_o_spotOf, .ref q_o_changes, .ref q_o_joinedX, .ref q_o_joinedY, .int o_joined, .ref q_o_facts, .int o_found, .int o_marked])), (q_o_spotOf, .inl (cI, o_spotOf_n, .inl o_spotOf_f)), (q_o_joinedX, .inl (cI, o_joinedX_n, .inl o_joinedX_f)), (q_o_joinedY, .inl (cI, o_joinedY_n, .inl o_joinedY_f))] (fun w => w = [(q_o, .inr (6, [.int o_width, .int o_height, .ref q_o_spotOf, .ref q_o_changes, .ref q_o_joinedX, .ref q_o_joinedY, .int r0, .ref q_o_facts, .int o_found, .int o_marked])), (q_o_spotOf, .inl (cI, o_spotOf_n, .inl r1)), (q_o_joinedX, .inl (cI, o_joinedX_n, .inl r2)), (q_o_joinedY, .inl (cI, o_joinedY_n, .inl r3))]) none := by
  refine ct_of (cc := b_Spots_joinFrom) (maxL := 4) (ret := none) (lv := [(0, .ref q_o), (1, .int a1), (2, .int a2)]) (by decide) rfl rfl rfl ?_
  intro p e s m args below meth c A Q H locs hx hb hml hown hts hin hA hK hN hP hD hS RT ls hl
  unfold p_Spots_joinFrom at h
  refine lv_aload_n hx hb d_Spots_joinFrom_0 rfl (lv_at hl 0 rfl) ?_
  refine lv_iconst (v := 0) hx hb d_Spots_joinFrom_1 (by decide) ?_
  refine va_put (D := (dC, dI)) (ci := 6) (v := .int 0) (ty := .int) (C := R_Spots) (T := F_Spots) (N := 10) hx hb hts i_Spots t_Spots t_Spots_ok n_Spots hown hK hP hD hS 0 rfl rfl 6 (by decide) (hts _ k_127) (fun _ h9 => h9) rfl (by decide +kernel) rfl rfl (Nat.le_of_ble_eq_true rfl) d_Spots_joinFrom_2 (fun H locs hP hD hS => ?_)
  have hP : va_P (dC, dI) vwCl [(q_o, .inr (6, [.int o_width, .int o_height, .ref q_o_spotOf, .ref q_o_changes, .ref q_o_joinedX, .ref q_o_joinedY, .int 0, .ref q_o_facts, .int o_found, .int o_marked])), (q_o_spotOf, .inl (cI, o_spotOf_n, .inl o_spotOf_f)), (q_o_joinedX, .inl (cI, o_joinedX_n, .inl o_joinedX_f)), (q_o_joinedY, .inl (cI, o_joinedY_n, .inl o_joinedY_f))] H := hP
  have hD : va_D A [(q_o, .inr (6, [.int o_width, .int o_height, .ref q_o_spotOf, .ref q_o_changes, .ref q_o_joinedX, .ref q_o_joinedY, .int 0, .ref q_o_facts, .int o_found, .int o_marked])), (q_o_spotOf, .inl (cI, o_spotOf_n, .inl o_spotOf_f)), (q_o_joinedX, .inl (cI, o_joinedX_n, .inl o_joinedX_f)), (q_o_joinedY, .inl (cI, o_joinedY_n, .inl o_joinedY_f))] := hD
  refine lv_aload_n hx hb d_Spots_joinFrom_5 rfl (lv_at hl 0 rfl) ?_
  refine lv_iload_n hx hb d_Spots_joinFrom_6 rfl (lv_at hl 1 rfl) ?_
  refine lv_iload_n hx hb d_Spots_joinFrom_7 rfl (lv_at hl 2 rfl) ?_
  obtain ⟨⟨u1_0, u1_1, u1_2, u1_3⟩, hu1, h⟩ := pu_bd h
  try dsimp only at h
  refine cc_V (As := [.int a1, .int a2]) (rest := []) ⟨hx, hb, hml, hown, hts⟩ (c_Spots_take l dC dI cI cJ cZ q_o q_o_spotOf q_o_changes q_o_joinedX q_o_joinedY q_o_facts a1 a2 o_width o_height 0 o_found o_marked o_spotOf_n o_spotOf_f o_joinedX_n o_joinedX_f o_joinedY_n o_joinedY_f u1_0 u1_1 u1_2 u1_3 hu1) (cwV 2 hts (gV k_276 k_278 kp_6 k_7 k_279 rfl) rfl rfl rfl hdV_Spots_take ⟨Nat.le_of_ble_eq_true rfl, Nat.le_of_ble_eq_true rfl⟩) hK hN hP hD hS hA [0, 1, 2, 3] [] (w0 := [(q_o, .inr (6, [.int o_width, .int o_height, .ref q_o_spotOf, .ref q_o_changes, .ref q_o_joinedX, .ref q_o_joinedY, .int 0, .ref q_o_facts, .int o_found, .int o_marked])), (q_o_spotOf, .inl (cI, o_spotOf_n, .inl o_spotOf_f)), (q_o_joinedX, .inl (cI, o_joinedX_n, .inl o_joinedX_f)), (q_o_joinedY, .inl (cI, o_joinedY_n, .inl o_joinedY_f))]) (wr := []) rfl rfl (by decide) (by decide) (by decide) 6 rfl rfl rfl hl.1 rfl (Nat.le_of_ble_eq_true rfl) d_Spots_joinFrom_8 ⟨Nat.le_of_ble_eq_true rfl, Nat.le_of_ble_eq_true rfl⟩ (fun w1 H locs hw1 hP hD hS => ?_)
  subst hw1
  have hP : va_P (dC, dI) vwCl [(q_o, .inr (6, [.int o_width, .int o_height, .ref q_o_spotOf, .ref q_o_changes, .ref q_o_joinedX, .ref q_o_joinedY, .int u1_0, .ref q_o_facts, .int o_found, .int o_marked])), (q_o_spotOf, .inl (cI, o_spotOf_n, .inl u1_1)), (q_o_joinedX, .inl (cI, o_joinedX_n, .inl u1_2)), (q_o_joinedY, .inl (cI, o_joinedY_n, .inl u1_3))] H := hP
  have hD : va_D A [(q_o, .inr (6, [.int o_width, .int o_height, .ref q_o_spotOf, .ref q_o_changes, .ref q_o_joinedX, .ref q_o_joinedY, .int u1_0, .ref q_o_facts, .int o_found, .int o_marked])), (q_o_spotOf, .inl (cI, o_spotOf_n, .inl u1_1)), (q_o_joinedX, .inl (cI, o_joinedX_n, .inl u1_2)), (q_o_joinedY, .inl (cI, o_joinedY_n, .inl u1_3))] := hD
  refine lv_iconst (v := 0) hx hb d_Spots_joinFrom_11 (by decide) ?_
  refine lv_istore_n (lv' := [(3, .int 0), (0, .ref q_o), (1, .int a1), (2, .int a2)]) hx hb d_Spots_joinFrom_12 rfl hl (by decide) rfl (fun ls hl => ?_)
  obtain ⟨e_2, he_2, hx_2⟩ := pu_bd h
  obtain ⟨n_2, hn_2⟩ := pu_loop_it he_2
  have K_2 : ∀ (y3_12 : Int32) (z13 : Int32) (z14 : Nat → Int32) (z15 : Nat → Int32) (z16 : Nat → Int32) (H : Heap) (locs : List Loc) (ls : Array Slot), e_2 = (y3_12, z13, z14, z15, z16) → lv_has ls 4 [(3, .int y3_12), (0, .ref q_o), (1, .int a1), (2, .int a2)] → va_P (dC, dI) vwCl [(q_o, .inr (6, [.int o_width, .int o_height, .ref q_o_spotOf, .ref q_o_changes, .ref q_o_joinedX, .ref q_o_joinedY, .int z13, .ref q_o_facts, .int o_found, .int o_marked])), (q_o_spotOf, .inl (cI, o_spotOf_n, .inl z14)), (q_o_joinedX, .inl (cI, o_joinedX_n, .inl z15)), (q_o_joinedY, .inl (cI, o_joinedY_n, .inl z16))] H → va_D A [(q_o, .inr (6, [.int o_width, .int o_height, .ref q_o_spotOf, .ref q_o_changes, .ref q_o_joinedX, .ref q_o_joinedY, .int z13, .ref q_o_facts, .int o_found, .int o_marked])), (q_o_spotOf, .inl (cI, o_spotOf_n, .inl z14)), (q_o_joinedX, .inl (cI, o_joinedX_n, .inl z15)), (q_o_joinedY, .inl (cI, o_joinedY_n, .inl z16))] → va_S A s.heap H locs → W p l e rm_Spots_joinFrom s m args below meth c H locs 0 0 Q (F0 m 108 ls []) := by
    intro y3_12 z13 z14 z15 z16 H locs ls he hl hP hD hS
    have h := hx_2
    rw [he] at h
    try dsimp only at h
    cases h
    refine W.widen (k := 0) (n := 0) (Nat.le_of_ble_eq_true rfl) (Nat.le_of_ble_eq_true rfl) ?_
    exact RT 108 ls H locs _ d_Spots_joinFrom_108 (Or.inl ⟨rfl, rfl⟩) rfl (hP.sub [0, 1, 2, 3] rfl) (hD.sub [0, 1, 2, 3] (by decide) rfl) hS
  have L_2 : ∀ (n : Nat) (x3_3 : Int32) (o_joined_4 : Int32) (o_spotOf_f_5 : Nat → Int32) (o_joinedX_f_6 : Nat → Int32) (o_joinedY_f_7 : Nat → Int32) (H : Heap) (locs : List Loc) (ls : Array Slot), pu_it (p_Spots_joinFrom_L2 o_width o_height o_found o_marked o_spotOf_n o_joinedX_n o_joinedY_n) n (x3_3, o_joined_4, o_spotOf_f_5, o_joinedX_f_6, o_joinedY_f_7) = some e_2 → lv_has ls 4 [(3, .int x3_3), (0, .ref q_o), (1, .int a1), (2, .int a2)] → va_P (dC, dI) vwCl [(q_o, .inr (6, [.int o_width, .int o_height, .ref q_o_spotOf, .ref q_o_changes, .ref q_o_joinedX, .ref q_o_joinedY, .int o_joined_4, .ref q_o_facts, .int o_found, .int o_marked])), (q_o_spotOf, .inl (cI, o_spotOf_n, .inl o_spotOf_f_5)), (q_o_joinedX, .inl (cI, o_joinedX_n, .inl o_joinedX_f_6)), (q_o_joinedY, .inl (cI, o_joinedY_n, .inl o_joinedY_f_7))] H → va_D A [(q_o, .inr (6, [.int o_width, .int o_height, .ref q_o_spotOf, .ref q_o_changes, .ref q_o_joinedX, .ref q_o_joinedY, .int o_joined_4, .ref q_o_facts, .int o_found, .int o_marked])), (q_o_spotOf, .inl (cI, o_spotOf_n, .inl o_spotOf_f_5)), (q_o_joinedX, .inl (cI, o_joinedX_n, .inl o_joinedX_f_6)), (q_o_joinedY, .inl (cI, o_joinedY_n, .inl o_joinedY_f_7))] → va_S A s.heap H locs → W p l e rm_Spots_joinFrom s m args below meth c H locs 0 0 Q (F0 m 13 ls []) := by
    intro n
    induction n with
    | zero => intro x3_3 o_joined_4 o_spotOf_f_5 o_joinedX_f_6 o_joinedY_f_7 H locs ls hn; exact (pu_it_0 hn).elim
    | succ n ih =>
      intro x3_3 o_joined_4 o_spotOf_f_5 o_joinedX_f_6 o_joinedY_f_7 H locs ls hn hl hP hD hS
      obtain ⟨r_2, h, hr_2⟩ := pu_it_succ hn
      unfold p_Spots_joinFrom_L2 at h
      try dsimp only at h
      refine lv_iload_n hx hb d_Spots_joinFrom_13 rfl (lv_at hl 0 rfl) ?_
      refine lv_aload_n hx hb d_Spots_joinFrom_14 rfl (lv_at hl 1 rfl) ?_
      refine va_get (D := (dC, dI)) (ci := 6) (v := .int o_joined_4) (C := R_Spots) (T := F_Spots) (N := 10) hx hb hts i_Spots hown hK hP 0 rfl rfl 6 (by decide) (hts _ k_127) (fun _ h9 => h9) rfl d_Spots_joinFrom_15 ?_
      refine lv_icmp_ge (tgt := 108) hx hb d_Spots_joinFrom_18 (by decide) (fun hc => ?_) (fun hc => ?_)
      · have h := pu_t hc h
        cases h
        exact K_2 x3_3 o_joined_4 o_spotOf_f_5 o_joinedX_f_6 o_joinedY_f_7 H locs ls hr_2.symm (lv_sub hl [0, 1, 2, 3] rfl) (hP.sub [0, 1, 2, 3] rfl) (hD.sub [0, 1, 2, 3] (by decide) rfl) hS
      · have h := pu_f hc h
        refine lv_iload_n hx hb d_Spots_joinFrom_21 rfl (lv_at hl 0 rfl) ?_
        refine lv_aload_n hx hb d_Spots_joinFrom_22 rfl (lv_at hl 1 rfl) ?_
        refine va_get (D := (dC, dI)) (ci := 6) (v := .ref q_o_joinedX) (C := R_Spots) (T := F_Spots) (N := 10) hx hb hts i_Spots hown hK hP 0 rfl rfl 4 (by decide) (hts _ k_125) (fun _ h9 => h9) rfl d_Spots_joinFrom_23 ?_
        refine va_alen (v := Int32.ofNat o_joinedX_n) hx hb hK hP 2 0 rfl rfl rfl d_Spots_joinFrom_26 ?_
        refine lv_icmp_ge (tgt := 108) hx hb d_Spots_joinFrom_27 (by decide) (fun hc => ?_) (fun hc => ?_)
        · have h := pu_t hc h
          cases h
          exact K_2 x3_3 o_joined_4 o_spotOf_f_5 o_joinedX_f_6 o_joinedY_f_7 H locs ls hr_2.symm (lv_sub hl [0, 1, 2, 3] rfl) (hP.sub [0, 1, 2, 3] rfl) (hD.sub [0, 1, 2, 3] (by decide) rfl) hS
        · have h := pu_f hc h
          refine lv_aload_n hx hb d_Spots_joinFrom_30 rfl (lv_at hl 1 rfl) ?_
          refine lv_aload_n hx hb d_Spots_joinFrom_31 rfl (lv_at hl 1 rfl) ?_
          refine va_get (D := (dC, dI)) (ci := 6) (v := .ref q_o_joinedX) (C := R_Spots) (T := F_Spots) (N := 10) hx hb hts i_Spots hown hK hP 0 rfl rfl 4 (by decide) (hts _ k_125) (fun _ h9 => h9) rfl d_Spots_joinFrom_32 ?_
          refine lv_iload_n hx hb d_Spots_joinFrom_35 rfl (lv_at hl 0 rfl) ?_
          obtain ⟨hg, h⟩ := pu_g h
          refine va_iald hx hb hK hP 2 0 rfl rfl hg d_Spots_joinFrom_36 ?_
          refine lv_aload_n hx hb d_Spots_joinFrom_37 rfl (lv_at hl 1 rfl) ?_
          refine va_get (D := (dC, dI)) (ci := 6) (v := .ref q_o_joinedY) (C := R_Spots) (T := F_Spots) (N := 10) hx hb hts i_Spots hown hK hP 0 rfl rfl 5 (by decide) (hts _ k_126) (fun _ h9 => h9) rfl d_Spots_joinFrom_38 ?_
          refine lv_iload_n hx hb d_Spots_joinFrom_41 rfl (lv_at hl 0 rfl) ?_
          obtain ⟨hg, h⟩ := pu_g h
          refine va_iald hx hb hK hP 3 0 rfl rfl hg d_Spots_joinFrom_42 ?_
          refine lv_iconst (v := 1) hx hb d_Spots_joinFrom_43 (by decide) ?_
          refine lv_isub hx hb d_Spots_joinFrom_44 ?_
          obtain ⟨⟨u8_0, u8_1, u8_2, u8_3⟩, hu8, h⟩ := pu_bd h
          try dsimp only at h
          refine cc_V (As := [.int (o_joinedX_f_6 x3_3.toNatClampNeg), .int ((o_joinedY_f_7 x3_3.toNatClampNeg) - 1)]) (rest := []) ⟨hx, hb, hml, hown, hts⟩ (c_Spots_take l dC dI cI cJ cZ q_o q_o_spotOf q_o_changes q_o_joinedX q_o_joinedY q_o_facts (o_joinedX_f_6 x3_3.toNatClampNeg) ((o_joinedY_f_7 x3_3.toNatClampNeg) - 1) o_width o_height o_joined_4 o_found o_marked o_spotOf_n o_spotOf_f_5 o_joinedX_n o_joinedX_f_6 o_joinedY_n o_joinedY_f_7 u8_0 u8_1 u8_2 u8_3 hu8) (cwV 2 hts (gV k_276 k_278 kp_6 k_7 k_279 rfl) rfl rfl rfl hdV_Spots_take ⟨Nat.le_of_ble_eq_true rfl, Nat.le_of_ble_eq_true rfl⟩) hK hN hP hD hS hA [0, 1, 2, 3] [] (w0 := [(q_o, .inr (6, [.int o_width, .int o_height, .ref q_o_spotOf, .ref q_o_changes, .ref q_o_joinedX, .ref q_o_joinedY, .int o_joined_4, .ref q_o_facts, .int o_found, .int o_marked])), (q_o_spotOf, .inl (cI, o_spotOf_n, .inl o_spotOf_f_5)), (q_o_joinedX, .inl (cI, o_joinedX_n, .inl o_joinedX_f_6)), (q_o_joinedY, .inl (cI, o_joinedY_n, .inl o_joinedY_f_7))]) (wr := []) rfl rfl (by decide) (by decide) (by decide) 6 rfl rfl rfl hl.1 rfl (Nat.le_of_ble_eq_true rfl) d_Spots_joinFrom_45 ⟨Nat.le_of_ble_eq_true rfl, Nat.le_of_ble_eq_true rfl⟩ (fun w1 H locs hw1 hP hD hS => ?_)
          subst hw1
          have hP : va_P (dC, dI) vwCl [(q_o, .inr (6, [.int o_width, .int o_height, .ref q_o_spotOf, .ref q_o_changes, .ref q_o_joinedX, .ref q_o_joinedY, .int u8_0, .ref q_o_facts, .int o_found, .int o_marked])), (q_o_spotOf, .inl (cI, o_spotOf_n, .inl u8_1)), (q_o_joinedX, .inl (cI, o_joinedX_n, .inl u8_2)), (q_o_joinedY, .inl (cI, o_joinedY_n, .inl u8_3))] H := hP
          have hD : va_D A [(q_o, .inr (6, [.int o_width, .int o_height, .ref q_o_spotOf, .ref q_o_changes, .ref q_o_joinedX, .ref q_o_joinedY, .int u8_0, .ref q_o_facts, .int o_found, .int o_marked])), (q_o_spotOf, .inl (cI, o_spotOf_n, .inl u8_1)), (q_o_joinedX, .inl (cI, o_joinedX_n, .inl u8_2)), (q_o_joinedY, .inl (cI, o_joinedY_n, .inl u8_3))] := hD
          refine lv_aload_n hx hb d_Spots_joinFrom_48 rfl (lv_at hl 1 rfl) ?_
          refine lv_aload_n hx hb d_Spots_joinFrom_49 rfl (lv_at hl 1 rfl) ?_
          refine va_get (D := (dC, dI)) (ci := 6) (v := .ref q_o_joinedX) (C := R_Spots) (T := F_Spots) (N := 10) hx hb hts i_Spots hown hK hP 0 rfl rfl 4 (by decide) (hts _ k_125) (fun _ h9 => h9) rfl d_Spots_joinFrom_50 ?_
          refine lv_iload_n hx hb d_Spots_joinFrom_53 rfl (lv_at hl 0 rfl) ?_
          obtain ⟨hg, h⟩ := pu_g h
          refine va_iald hx hb hK hP 2 0 rfl rfl hg d_Spots_joinFrom_54 ?_
          refine lv_iconst (v := 1) hx hb d_Spots_joinFrom_55 (by decide) ?_
          refine lv_isub hx hb d_Spots_joinFrom_56 ?_
          refine lv_aload_n hx hb d_Spots_joinFrom_57 rfl (lv_at hl 1 rfl) ?_
          refine va_get (D := (dC, dI)) (ci := 6) (v := .ref q_o_joinedY) (C := R_Spots) (T := F_Spots) (N := 10) hx hb hts i_Spots hown hK hP 0 rfl rfl 5 (by decide) (hts _ k_126) (fun _ h9 => h9) rfl d_Spots_joinFrom_58 ?_
          refine lv_iload_n hx hb d_Spots_joinFrom_61 rfl (lv_at hl 0 rfl) ?_
          obtain ⟨hg, h⟩ := pu_g h
          refine va_iald hx hb hK hP 3 0 rfl rfl hg d_Spots_joinFrom_62 ?_
          obtain ⟨⟨u9_0, u9_1, u9_2, u9_3⟩, hu9, h⟩ := pu_bd h
          try dsimp only at h
          refine cc_V (As := [.int ((u8_2 x3_3.toNatClampNeg) - 1), .int (u8_3 x3_3.toNatClampNeg)]) (rest := []) ⟨hx, hb, hml, hown, hts⟩ (c_Spots_take l dC dI cI cJ cZ q_o q_o_spotOf q_o_changes q_o_joinedX q_o_joinedY q_o_facts ((u8_2 x3_3.toNatClampNeg) - 1) (u8_3 x3_3.toNatClampNeg) o_width o_height u8_0 o_found o_marked o_spotOf_n u8_1 o_joinedX_n u8_2 o_joinedY_n u8_3 u9_0 u9_1 u9_2 u9_3 hu9) (cwV 2 hts (gV k_276 k_278 kp_6 k_7 k_279 rfl) rfl rfl rfl hdV_Spots_take ⟨Nat.le_of_ble_eq_true rfl, Nat.le_of_ble_eq_true rfl⟩) hK hN hP hD hS hA [0, 1, 2, 3] [] (w0 := [(q_o, .inr (6, [.int o_width, .int o_height, .ref q_o_spotOf, .ref q_o_changes, .ref q_o_joinedX, .ref q_o_joinedY, .int u8_0, .ref q_o_facts, .int o_found, .int o_marked])), (q_o_spotOf, .inl (cI, o_spotOf_n, .inl u8_1)), (q_o_joinedX, .inl (cI, o_joinedX_n, .inl u8_2)), (q_o_joinedY, .inl (cI, o_joinedY_n, .inl u8_3))]) (wr := []) rfl rfl (by decide) (by decide) (by decide) 6 rfl rfl rfl hl.1 rfl (Nat.le_of_ble_eq_true rfl) d_Spots_joinFrom_63 ⟨Nat.le_of_ble_eq_true rfl, Nat.le_of_ble_eq_true rfl⟩ (fun w1 H locs hw1 hP hD hS => ?_)
          subst hw1
          have hP : va_P (dC, dI) vwCl [(q_o, .inr (6, [.int o_width, .int o_height, .ref q_o_spotOf, .ref q_o_changes, .ref q_o_joinedX, .ref q_o_joinedY, .int u9_0, .ref q_o_facts, .int o_found, .int o_marked])), (q_o_spotOf, .inl (cI, o_spotOf_n, .inl u9_1)), (q_o_joinedX, .inl (cI, o_joinedX_n, .inl u9_2)), (q_o_joinedY, .inl (cI, o_joinedY_n, .inl u9_3))] H := hP
          have hD : va_D A [(q_o, .inr (6, [.int o_width, .int o_height, .ref q_o_spotOf, .ref q_o_changes, .ref q_o_joinedX, .ref q_o_joinedY, .int u9_0, .ref q_o_facts, .int o_found, .int o_marked])), (q_o_spotOf, .inl (cI, o_spotOf_n, .inl u9_1)), (q_o_joinedX, .inl (cI, o_joinedX_n, .inl u9_2)), (q_o_joinedY, .inl (cI, o_joinedY_n, .inl u9_3))] := hD
          refine lv_aload_n hx hb d_Spots_joinFrom_66 rfl (lv_at hl 1 rfl) ?_
          refine lv_aload_n hx hb d_Spots_joinFrom_67 rfl (lv_at hl 1 rfl) ?_
          refine va_get (D := (dC, dI)) (ci := 6) (v := .ref q_o_joinedX) (C := R_Spots) (T := F_Spots) (N := 10) hx hb hts i_Spots hown hK hP 0 rfl rfl 4 (by decide) (hts _ k_125) (fun _ h9 => h9) rfl d_Spots_joinFrom_68 ?_
          refine lv_iload_n hx hb d_Spots_joinFrom_71 rfl (lv_at hl 0 rfl) ?_
          obtain ⟨hg, h⟩ := pu_g h
          refine va_iald hx hb hK hP 2 0 rfl rfl hg d_Spots_joinFrom_72 ?_
          refine lv_iconst (v := 1) hx hb d_Spots_joinFrom_73 (by decide) ?_
          refine lv_iadd hx hb d_Spots_joinFrom_74 ?_
          refine lv_aload_n hx hb d_Spots_joinFrom_75 rfl (lv_at hl 1 rfl) ?_
          refine va_get (D := (dC, dI)) (ci := 6) (v := .ref q_o_joinedY) (C := R_Spots) (T := F_Spots) (N := 10) hx hb hts i_Spots hown hK hP 0 rfl rfl 5 (by decide) (hts _ k_126) (fun _ h9 => h9) rfl d_Spots_joinFrom_76 ?_
          refine lv_iload_n hx hb d_Spots_joinFrom_79 rfl (lv_at hl 0 rfl) ?_
          obtain ⟨hg, h⟩ := pu_g h
          refine va_iald hx hb hK hP 3 0 rfl rfl hg d_Spots_joinFrom_80 ?_
          obtain ⟨⟨u10_0, u10_1, u10_2, u10_3⟩, hu10, h⟩ := pu_bd h
          try dsimp only at h
          refine cc_V (As := [.int ((u9_2 x3_3.toNatClampNeg) + 1), .int (u9_3 x3_3.toNatClampNeg)]) (rest := []) ⟨hx, hb, hml, hown, hts⟩ (c_Spots_take l dC dI cI cJ cZ q_o q_o_spotOf q_o_changes q_o_joinedX q_o_joinedY q_o_facts ((u9_2 x3_3.toNatClampNeg) + 1) (u9_3 x3_3.toNatClampNeg) o_width o_height u9_0 o_found o_marked o_spotOf_n u9_1 o_joinedX_n u9_2 o_joinedY_n u9_3 u10_0 u10_1 u10_2 u10_3 hu10) (cwV 2 hts (gV k_276 k_278 kp_6 k_7 k_279 rfl) rfl rfl rfl hdV_Spots_take ⟨Nat.le_of_ble_eq_true rfl, Nat.le_of_ble_eq_true rfl⟩) hK hN hP hD hS hA [0, 1, 2, 3] [] (w0 := [(q_o, .inr (6, [.int o_width, .int o_height, .ref q_o_spotOf, .ref q_o_changes, .ref q_o_joinedX, .ref q_o_joinedY, .int u9_0, .ref q_o_facts, .int o_found, .int o_marked])), (q_o_spotOf, .inl (cI, o_spotOf_n, .inl u9_1)), (q_o_joinedX, .inl (cI, o_joinedX_n, .inl u9_2)), (q_o_joinedY, .inl (cI, o_joinedY_n, .inl u9_3))]) (wr := []) rfl rfl (by decide) (by decide) (by decide) 6 rfl rfl rfl hl.1 rfl (Nat.le_of_ble_eq_true rfl) d_Spots_joinFrom_81 ⟨Nat.le_of_ble_eq_true rfl, Nat.le_of_ble_eq_true rfl⟩ (fun w1 H locs hw1 hP hD hS => ?_)
          subst hw1
          have hP : va_P (dC, dI) vwCl [(q_o, .inr (6, [.int o_width, .int o_height, .ref q_o_spotOf, .ref q_o_changes, .ref q_o_joinedX, .ref q_o_joinedY, .int u10_0, .ref q_o_facts, .int o_found, .int o_marked])), (q_o_spotOf, .inl (cI, o_spotOf_n, .inl u10_1)), (q_o_joinedX, .inl (cI, o_joinedX_n, .inl u10_2)), (q_o_joinedY, .inl (cI, o_joinedY_n, .inl u10_3))] H := hP
          have hD : va_D A [(q_o, .inr (6, [.int o_width, .int o_height, .ref q_o_spotOf, .ref q_o_changes, .ref q_o_joinedX, .ref q_o_joinedY, .int u10_0, .ref q_o_facts, .int o_found, .int o_marked])), (q_o_spotOf, .inl (cI, o_spotOf_n, .inl u10_1)), (q_o_joinedX, .inl (cI, o_joinedX_n, .inl u10_2)), (q_o_joinedY, .inl (cI, o_joinedY_n, .inl u10_3))] := hD
          refine lv_aload_n hx hb d_Spots_joinFrom_84 rfl (lv_at hl 1 rfl) ?_
          refine lv_aload_n hx hb d_Spots_joinFrom_85 rfl (lv_at hl 1 rfl) ?_
          refine va_get (D := (dC, dI)) (ci := 6) (v := .ref q_o_joinedX) (C := R_Spots) (T := F_Spots) (N := 10) hx hb hts i_Spots hown hK hP 0 rfl rfl 4 (by decide) (hts _ k_125) (fun _ h9 => h9) rfl d_Spots_joinFrom_86 ?_
          refine lv_iload_n hx hb d_Spots_joinFrom_89 rfl (lv_at hl 0 rfl) ?_
          obtain ⟨hg, h⟩ := pu_g h
          refine va_iald hx hb hK hP 2 0 rfl rfl hg d_Spots_joinFrom_90 ?_
          refine lv_aload_n hx hb d_Spots_joinFrom_91 rfl (lv_at hl 1 rfl) ?_
          refine va_get (D := (dC, dI)) (ci := 6) (v := .ref q_o_joinedY) (C := R_Spots) (T := F_Spots) (N := 10) hx hb hts i_Spots hown hK hP 0 rfl rfl 5 (by decide) (hts _ k_126) (fun _ h9 => h9) rfl d_Spots_joinFrom_92 ?_
          refine lv_iload_n hx hb d_Spots_joinFrom_95 rfl (lv_at hl 0 rfl) ?_
          obtain ⟨hg, h⟩ := pu_g h
          refine va_iald hx hb hK hP 3 0 rfl rfl hg d_Spots_joinFrom_96 ?_
          refine lv_iconst (v := 1) hx hb d_Spots_joinFrom_97 (by decide) ?_
          refine lv_iadd hx hb d_Spots_joinFrom_98 ?_
          obtain ⟨⟨u11_0, u11_1, u11_2, u11_3⟩, hu11, h⟩ := pu_bd h
          try dsimp only at h
          refine cc_V (As := [.int (u10_2 x3_3.toNatClampNeg), .int ((u10_3 x3_3.toNatClampNeg) + 1)]) (rest := []) ⟨hx, hb, hml, hown, hts⟩ (c_Spots_take l dC dI cI cJ cZ q_o q_o_spotOf q_o_changes q_o_joinedX q_o_joinedY q_o_facts (u10_2 x3_3.toNatClampNeg) ((u10_3 x3_3.toNatClampNeg) + 1) o_width o_height u10_0 o_found o_marked o_spotOf_n u10_1 o_joinedX_n u10_2 o_joinedY_n u10_3 u11_0 u11_1 u11_2 u11_3 hu11) (cwV 2 hts (gV k_276 k_278 kp_6 k_7 k_279 rfl) rfl rfl rfl hdV_Spots_take ⟨Nat.le_of_ble_eq_true rfl, Nat.le_of_ble_eq_true rfl⟩) hK hN hP hD hS hA [0, 1, 2, 3] [] (w0 := [(q_o, .inr (6, [.int o_width, .int o_height, .ref q_o_spotOf, .ref q_o_changes, .ref q_o_joinedX, .ref q_o_joinedY, .int u10_0, .ref q_o_facts, .int o_found, .int o_marked])), (q_o_spotOf, .inl (cI, o_spotOf_n, .inl u10_1)), (q_o_joinedX, .inl (cI, o_joinedX_n, .inl u10_2)), (q_o_joinedY, .inl (cI, o_joinedY_n, .inl u10_3))]) (wr := []) rfl rfl (by decide) (by decide) (by decide) 6 rfl rfl rfl hl.1 rfl (Nat.le_of_ble_eq_true rfl) d_Spots_joinFrom_99 ⟨Nat.le_of_ble_eq_true rfl, Nat.le_of_ble_eq_true rfl⟩ (fun w1 H locs hw1 hP hD hS => ?_)
          subst hw1
          have hP : va_P (dC, dI) vwCl [(q_o, .inr (6, [.int o_width, .int o_height, .ref q_o_spotOf, .ref q_o_changes, .ref q_o_joinedX, .ref q_o_joinedY, .int u11_0, .ref q_o_facts, .int o_found, .int o_marked])), (q_o_spotOf, .inl (cI, o_spotOf_n, .inl u11_1)), (q_o_joinedX, .inl (cI, o_joinedX_n, .inl u11_2)), (q_o_joinedY, .inl (cI, o_joinedY_n, .inl u11_3))] H := hP
          have hD : va_D A [(q_o, .inr (6, [.int o_width, .int o_height, .ref q_o_spotOf, .ref q_o_changes, .ref q_o_joinedX, .ref q_o_joinedY, .int u11_0, .ref q_o_facts, .int o_found, .int o_marked])), (q_o_spotOf, .inl (cI, o_spotOf_n, .inl u11_1)), (q_o_joinedX, .inl (cI, o_joinedX_n, .inl u11_2)), (q_o_joinedY, .inl (cI, o_joinedY_n, .inl u11_3))] := hD
          refine lv_iinc (v := (x3_3 + 1)) (lv' := [(3, .int (x3_3 + 1)), (0, .ref q_o), (1, .int a1), (2, .int a2)]) hx hb d_Spots_joinFrom_102 hl (k := 0) rfl rfl (by decide) rfl (fun ls hl => ?_)
          refine lv_goto (tgt := 13) hx hb d_Spots_joinFrom_105 (by decide) ?_
          cases h
          exact ih (x3_3 + 1) u11_0 u11_1 u11_2 u11_3 H locs ls hr_2 (lv_sub hl [0, 1, 2, 3] rfl) (hP.sub [0, 1, 2, 3] rfl) (hD.sub [0, 1, 2, 3] (by decide) rfl) hS
  exact L_2 n_2 0 u1_0 u1_1 u1_2 u1_3 H locs ls hn_2 hl hP hD hS

noncomputable def p_Spots_ownAt (a1 : Int32) (a2 : Int32) (o_width : Int32) (o_height : Int32) (o_joined : Int32) (o_found : Int32) (o_marked : Int32) (o_spotOf_n : Nat) (o_spotOf_f : Nat → Int32) : Option (Int32) :=
  (p_Spots_spotAt a1 a2 o_width o_height o_joined o_found o_marked o_spotOf_n o_spotOf_f).bind (fun (v1 : Int32) => (if v1 = o_found then some 1 else some 0))
set_option maxHeartbeats 4000000 in
set_option maxRecDepth 100000 in
theorem c_Spots_ownAt (l : Launch) (dC : Nat → ClassId) (dI : Nat → Nat → Nat) (cI cJ cZ : ClassId) (q_o q_o_spotOf q_o_changes q_o_joinedX q_o_joinedY q_o_facts : Nat) (a1 : Int32) (a2 : Int32) (o_width : Int32) (o_height : Int32) (o_joined : Int32) (o_found : Int32) (o_marked : Int32) (o_spotOf_n : Nat) (o_spotOf_f : Nat → Int32) (r0 : Int32) (h : p_Spots_ownAt a1 a2 o_width o_height o_joined o_found o_marked o_spotOf_n o_spotOf_f = some r0) : ct l y_Spots_ownAt w_Spots_ownAt rm_Spots_ownAt (dC, dI) [(cI, .int), (cJ, .long), (cZ, .boolean)] [.ref q_o, .int a1, .int a2] [(q_o, .inr (6, [.int o_width, .int o_height, .ref q_o_spotOf, .ref q_o_changes, .ref q_o_joinedX, .ref q_o_joinedY, .int o_joined, .ref q_o_facts, .int o_found, .int o_marked])), (q_o_spotOf, .inl (cI, o_spotOf_n, .inl o_spotOf_f))] (fun w => w = [(q_o, .inr (6, [.int o_width, .int o_height, .ref q_o_spotOf, .ref q_o_changes, .ref q_o_joinedX, .ref q_o_joinedY, .int o_joined, .ref q_o_facts, .int o_found, .int o_marked])), (q_o_spotOf, .inl (cI, o_spotOf_n, .inl o_spotOf_f))]) (some (.int r0)) := by
  refine ct_of (cc := b_Spots_ownAt) (maxL := 3) (ret := (some .int)) (lv := [(0, .ref q_o), (1, .int a1), (2, .int a2)]) (by decide) rfl rfl rfl ?_
  intro p e s m args below meth c A Q H locs hx hb hml hown hts hin hA hK hN hP hD hS RT ls hl
  unfold p_Spots_ownAt at h
  refine lv_aload_n hx hb d_Spots_ownAt_0 rfl (lv_at hl 0 rfl) ?_
  refine lv_iload_n hx hb d_Spots_ownAt_1 rfl (lv_at hl 1 rfl) ?_
  refine lv_iload_n hx hb d_Spots_ownAt_2 rfl (lv_at hl 2 rfl) ?_
  obtain ⟨v1, hu1, h⟩ := pu_bd h
  refine cc_V (As := [.int a1, .int a2]) (rest := []) ⟨hx, hb, hml, hown, hts⟩ (c_Spots_spotAt l dC dI cI cJ cZ q_o q_o_spotOf q_o_changes q_o_joinedX q_o_joinedY q_o_facts a1 a2 o_width o_height o_joined o_found o_marked o_spotOf_n o_spotOf_f v1 hu1) (cwV 2 hts (gV k_268 k_269 k_270 k_7 k_271 rfl) rfl rfl rfl hdV_Spots_spotAt ⟨Nat.le_of_ble_eq_true rfl, Nat.le_of_ble_eq_true rfl⟩) hK hN hP hD hS hA [0, 1] [] (w0 := [(q_o, .inr (6, [.int o_width, .int o_height, .ref q_o_spotOf, .ref q_o_changes, .ref q_o_joinedX, .ref q_o_joinedY, .int o_joined, .ref q_o_facts, .int o_found, .int o_marked])), (q_o_spotOf, .inl (cI, o_spotOf_n, .inl o_spotOf_f))]) (wr := []) rfl rfl (by decide) (by decide) (by decide) 6 rfl rfl rfl hl.1 rfl (Nat.le_of_ble_eq_true rfl) d_Spots_ownAt_3 ⟨Nat.le_of_ble_eq_true rfl, Nat.le_of_ble_eq_true rfl⟩ (fun w1 H locs hw1 hP hD hS => ?_)
  subst hw1
  have hP : va_P (dC, dI) vwCl [(q_o, .inr (6, [.int o_width, .int o_height, .ref q_o_spotOf, .ref q_o_changes, .ref q_o_joinedX, .ref q_o_joinedY, .int o_joined, .ref q_o_facts, .int o_found, .int o_marked])), (q_o_spotOf, .inl (cI, o_spotOf_n, .inl o_spotOf_f))] H := hP
  have hD : va_D A [(q_o, .inr (6, [.int o_width, .int o_height, .ref q_o_spotOf, .ref q_o_changes, .ref q_o_joinedX, .ref q_o_joinedY, .int o_joined, .ref q_o_facts, .int o_found, .int o_marked])), (q_o_spotOf, .inl (cI, o_spotOf_n, .inl o_spotOf_f))] := hD
  refine lv_aload_n hx hb d_Spots_ownAt_6 rfl (lv_at hl 0 rfl) ?_
  refine va_get (D := (dC, dI)) (ci := 6) (v := .int o_found) (C := R_Spots) (T := F_Spots) (N := 10) hx hb hts i_Spots hown hK hP 0 rfl rfl 8 (by decide) (hts _ k_129) (fun _ h9 => h9) rfl d_Spots_ownAt_7 ?_
  refine lv_icmp_ne (tgt := 17) hx hb d_Spots_ownAt_10 (by decide) (fun hc => ?_) (fun hc => ?_)
  · have h := pu_f hc h
    refine lv_iconst (v := 0) hx hb d_Spots_ownAt_17 (by decide) ?_
    cases h
    refine W.widen (k := 0) (n := 0) (Nat.le_of_ble_eq_true rfl) (Nat.le_of_ble_eq_true rfl) ?_
    exact RT 18 ls H locs _ d_Spots_ownAt_18 (Or.inr (Or.inl ⟨rfl, _, rfl⟩)) rfl (hP.sub [0, 1] rfl) (hD.sub [0, 1] (by decide) rfl) hS
  · have h := pu_t hc h
    refine lv_iconst (v := 1) hx hb d_Spots_ownAt_13 (by decide) ?_
    refine lv_goto (tgt := 18) hx hb d_Spots_ownAt_14 (by decide) ?_
    cases h
    refine W.widen (k := 0) (n := 0) (Nat.le_of_ble_eq_true rfl) (Nat.le_of_ble_eq_true rfl) ?_
    exact RT 18 ls H locs _ d_Spots_ownAt_18 (Or.inr (Or.inl ⟨rfl, _, rfl⟩)) rfl (hP.sub [0, 1] rfl) (hD.sub [0, 1] (by decide) rfl) hS

noncomputable def p_Spots_neighboursOf (a1 : Int32) (a2 : Int32) (o_width : Int32) (o_height : Int32) (o_joined : Int32) (o_found : Int32) (o_marked : Int32) (o_spotOf_n : Nat) (o_spotOf_f : Nat → Int32) : Option (Int32) :=
  (p_Spots_ownAt a1 (a2 - 1) o_width o_height o_joined o_found o_marked o_spotOf_n o_spotOf_f).bind (fun (v1 : Int32) => (p_Spots_ownAt (a1 - 1) a2 o_width o_height o_joined o_found o_marked o_spotOf_n o_spotOf_f).bind (fun (v2 : Int32) => (p_Spots_ownAt (a1 + 1) a2 o_width o_height o_joined o_found o_marked o_spotOf_n o_spotOf_f).bind (fun (v3 : Int32) => (p_Spots_ownAt a1 (a2 + 1) o_width o_height o_joined o_found o_marked o_spotOf_n o_spotOf_f).bind (fun (v4 : Int32) => some (((v1 + v2) + v3) + v4)))))
set_option maxHeartbeats 4000000 in
set_option maxRecDepth 100000 in
theorem c_Spots_neighboursOf (l : Launch) (dC : Nat → ClassId) (dI : Nat → Nat → Nat) (cI cJ cZ : ClassId) (q_o q_o_spotOf q_o_changes q_o_joinedX q_o_joinedY q_o_facts : Nat) (a1 : Int32) (a2 : Int32) (o_width : Int32) (o_height : Int32) (o_joined : Int32) (o_found : Int32) (o_marked : Int32) (o_spotOf_n : Nat) (o_spotOf_f : Nat → Int32) (r0 : Int32) (h : p_Spots_neighboursOf a1 a2 o_width o_height o_joined o_found o_marked o_spotOf_n o_spotOf_f = some r0) : ct l y_Spots_neighboursOf w_Spots_neighboursOf rm_Spots_neighboursOf (dC, dI) [(cI, .int), (cJ, .long), (cZ, .boolean)] [.ref q_o, .int a1, .int a2] [(q_o, .inr (6, [.int o_width, .int o_height, .ref q_o_spotOf, .ref q_o_changes, .ref q_o_joinedX, .ref q_o_joinedY, .int o_joined, .ref q_o_facts, .int o_found, .int o_marked])), (q_o_spotOf, .inl (cI, o_spotOf_n, .inl o_spotOf_f))] (fun w => w = [(q_o, .inr (6, [.int o_width, .int o_height, .ref q_o_spotOf, .ref q_o_changes, .ref q_o_joinedX, .ref q_o_joinedY, .int o_joined, .ref q_o_facts, .int o_found, .int o_marked])), (q_o_spotOf, .inl (cI, o_spotOf_n, .inl o_spotOf_f))]) (some (.int r0)) := by
  refine ct_of (cc := b_Spots_neighboursOf) (maxL := 3) (ret := (some .int)) (lv := [(0, .ref q_o), (1, .int a1), (2, .int a2)]) (by decide) rfl rfl rfl ?_
  intro p e s m args below meth c A Q H locs hx hb hml hown hts hin hA hK hN hP hD hS RT ls hl
  unfold p_Spots_neighboursOf at h
  refine lv_aload_n hx hb d_Spots_neighboursOf_0 rfl (lv_at hl 0 rfl) ?_
  refine lv_iload_n hx hb d_Spots_neighboursOf_1 rfl (lv_at hl 1 rfl) ?_
  refine lv_iload_n hx hb d_Spots_neighboursOf_2 rfl (lv_at hl 2 rfl) ?_
  refine lv_iconst (v := 1) hx hb d_Spots_neighboursOf_3 (by decide) ?_
  refine lv_isub hx hb d_Spots_neighboursOf_4 ?_
  obtain ⟨v1, hu1, h⟩ := pu_bd h
  refine cc_V (As := [.int a1, .int (a2 - 1)]) (rest := []) ⟨hx, hb, hml, hown, hts⟩ (c_Spots_ownAt l dC dI cI cJ cZ q_o q_o_spotOf q_o_changes q_o_joinedX q_o_joinedY q_o_facts a1 (a2 - 1) o_width o_height o_joined o_found o_marked o_spotOf_n o_spotOf_f v1 hu1) (cwV 2 hts (gV k_294 k_296 kp_10 k_7 k_297 rfl) rfl rfl rfl hdV_Spots_ownAt ⟨Nat.le_of_ble_eq_true rfl, Nat.le_of_ble_eq_true rfl⟩) hK hN hP hD hS hA [0, 1] [] (w0 := [(q_o, .inr (6, [.int o_width, .int o_height, .ref q_o_spotOf, .ref q_o_changes, .ref q_o_joinedX, .ref q_o_joinedY, .int o_joined, .ref q_o_facts, .int o_found, .int o_marked])), (q_o_spotOf, .inl (cI, o_spotOf_n, .inl o_spotOf_f))]) (wr := []) rfl rfl (by decide) (by decide) (by decide) 6 rfl rfl rfl hl.1 rfl (Nat.le_of_ble_eq_true rfl) d_Spots_neighboursOf_5 ⟨Nat.le_of_ble_eq_true rfl, Nat.le_of_ble_eq_true rfl⟩ (fun w1 H locs hw1 hP hD hS => ?_)
  subst hw1
  have hP : va_P (dC, dI) vwCl [(q_o, .inr (6, [.int o_width, .int o_height, .ref q_o_spotOf, .ref q_o_changes, .ref q_o_joinedX, .ref q_o_joinedY, .int o_joined, .ref q_o_facts, .int o_found, .int o_marked])), (q_o_spotOf, .inl (cI, o_spotOf_n, .inl o_spotOf_f))] H := hP
  have hD : va_D A [(q_o, .inr (6, [.int o_width, .int o_height, .ref q_o_spotOf, .ref q_o_changes, .ref q_o_joinedX, .ref q_o_joinedY, .int o_joined, .ref q_o_facts, .int o_found, .int o_marked])), (q_o_spotOf, .inl (cI, o_spotOf_n, .inl o_spotOf_f))] := hD
  refine lv_aload_n hx hb d_Spots_neighboursOf_8 rfl (lv_at hl 0 rfl) ?_
  refine lv_iload_n hx hb d_Spots_neighboursOf_9 rfl (lv_at hl 1 rfl) ?_
  refine lv_iconst (v := 1) hx hb d_Spots_neighboursOf_10 (by decide) ?_
  refine lv_isub hx hb d_Spots_neighboursOf_11 ?_
  refine lv_iload_n hx hb d_Spots_neighboursOf_12 rfl (lv_at hl 2 rfl) ?_
  obtain ⟨v2, hu2, h⟩ := pu_bd h
  refine cc_V (As := [.int (a1 - 1), .int a2]) (rest := [.int v1]) ⟨hx, hb, hml, hown, hts⟩ (c_Spots_ownAt l dC dI cI cJ cZ q_o q_o_spotOf q_o_changes q_o_joinedX q_o_joinedY q_o_facts (a1 - 1) a2 o_width o_height o_joined o_found o_marked o_spotOf_n o_spotOf_f v2 hu2) (cwV 2 hts (gV k_294 k_296 kp_10 k_7 k_297 rfl) rfl rfl rfl hdV_Spots_ownAt ⟨Nat.le_of_ble_eq_true rfl, Nat.le_of_ble_eq_true rfl⟩) hK hN hP hD hS hA [0, 1] [] (w0 := [(q_o, .inr (6, [.int o_width, .int o_height, .ref q_o_spotOf, .ref q_o_changes, .ref q_o_joinedX, .ref q_o_joinedY, .int o_joined, .ref q_o_facts, .int o_found, .int o_marked])), (q_o_spotOf, .inl (cI, o_spotOf_n, .inl o_spotOf_f))]) (wr := []) rfl rfl (by decide) (by decide) (by decide) 6 rfl rfl rfl hl.1 rfl (Nat.le_of_ble_eq_true rfl) d_Spots_neighboursOf_13 ⟨Nat.le_of_ble_eq_true rfl, Nat.le_of_ble_eq_true rfl⟩ (fun w1 H locs hw1 hP hD hS => ?_)
  subst hw1
  have hP : va_P (dC, dI) vwCl [(q_o, .inr (6, [.int o_width, .int o_height, .ref q_o_spotOf, .ref q_o_changes, .ref q_o_joinedX, .ref q_o_joinedY, .int o_joined, .ref q_o_facts, .int o_found, .int o_marked])), (q_o_spotOf, .inl (cI, o_spotOf_n, .inl o_spotOf_f))] H := hP
  have hD : va_D A [(q_o, .inr (6, [.int o_width, .int o_height, .ref q_o_spotOf, .ref q_o_changes, .ref q_o_joinedX, .ref q_o_joinedY, .int o_joined, .ref q_o_facts, .int o_found, .int o_marked])), (q_o_spotOf, .inl (cI, o_spotOf_n, .inl o_spotOf_f))] := hD
  refine lv_iadd hx hb d_Spots_neighboursOf_16 ?_
  refine lv_aload_n hx hb d_Spots_neighboursOf_17 rfl (lv_at hl 0 rfl) ?_
  refine lv_iload_n hx hb d_Spots_neighboursOf_18 rfl (lv_at hl 1 rfl) ?_
  refine lv_iconst (v := 1) hx hb d_Spots_neighboursOf_19 (by decide) ?_
  refine lv_iadd hx hb d_Spots_neighboursOf_20 ?_
  refine lv_iload_n hx hb d_Spots_neighboursOf_21 rfl (lv_at hl 2 rfl) ?_
  obtain ⟨v3, hu3, h⟩ := pu_bd h
  refine cc_V (As := [.int (a1 + 1), .int a2]) (rest := [.int (v1 + v2)]) ⟨hx, hb, hml, hown, hts⟩ (c_Spots_ownAt l dC dI cI cJ cZ q_o q_o_spotOf q_o_changes q_o_joinedX q_o_joinedY q_o_facts (a1 + 1) a2 o_width o_height o_joined o_found o_marked o_spotOf_n o_spotOf_f v3 hu3) (cwV 2 hts (gV k_294 k_296 kp_10 k_7 k_297 rfl) rfl rfl rfl hdV_Spots_ownAt ⟨Nat.le_of_ble_eq_true rfl, Nat.le_of_ble_eq_true rfl⟩) hK hN hP hD hS hA [0, 1] [] (w0 := [(q_o, .inr (6, [.int o_width, .int o_height, .ref q_o_spotOf, .ref q_o_changes, .ref q_o_joinedX, .ref q_o_joinedY, .int o_joined, .ref q_o_facts, .int o_found, .int o_marked])), (q_o_spotOf, .inl (cI, o_spotOf_n, .inl o_spotOf_f))]) (wr := []) rfl rfl (by decide) (by decide) (by decide) 6 rfl rfl rfl hl.1 rfl (Nat.le_of_ble_eq_true rfl) d_Spots_neighboursOf_22 ⟨Nat.le_of_ble_eq_true rfl, Nat.le_of_ble_eq_true rfl⟩ (fun w1 H locs hw1 hP hD hS => ?_)
  subst hw1
  have hP : va_P (dC, dI) vwCl [(q_o, .inr (6, [.int o_width, .int o_height, .ref q_o_spotOf, .ref q_o_changes, .ref q_o_joinedX, .ref q_o_joinedY, .int o_joined, .ref q_o_facts, .int o_found, .int o_marked])), (q_o_spotOf, .inl (cI, o_spotOf_n, .inl o_spotOf_f))] H := hP
  have hD : va_D A [(q_o, .inr (6, [.int o_width, .int o_height, .ref q_o_spotOf, .ref q_o_changes, .ref q_o_joinedX, .ref q_o_joinedY, .int o_joined, .ref q_o_facts, .int o_found, .int o_marked])), (q_o_spotOf, .inl (cI, o_spotOf_n, .inl o_spotOf_f))] := hD
  refine lv_iadd hx hb d_Spots_neighboursOf_25 ?_
  refine lv_aload_n hx hb d_Spots_neighboursOf_26 rfl (lv_at hl 0 rfl) ?_
  refine lv_iload_n hx hb d_Spots_neighboursOf_27 rfl (lv_at hl 1 rfl) ?_
  refine lv_iload_n hx hb d_Spots_neighboursOf_28 rfl (lv_at hl 2 rfl) ?_
  refine lv_iconst (v := 1) hx hb d_Spots_neighboursOf_29 (by decide) ?_
  refine lv_iadd hx hb d_Spots_neighboursOf_30 ?_
  obtain ⟨v4, hu4, h⟩ := pu_bd h
  refine cc_V (As := [.int a1, .int (a2 + 1)]) (rest := [.int ((v1 + v2) + v3)]) ⟨hx, hb, hml, hown, hts⟩ (c_Spots_ownAt l dC dI cI cJ cZ q_o q_o_spotOf q_o_changes q_o_joinedX q_o_joinedY q_o_facts a1 (a2 + 1) o_width o_height o_joined o_found o_marked o_spotOf_n o_spotOf_f v4 hu4) (cwV 2 hts (gV k_294 k_296 kp_10 k_7 k_297 rfl) rfl rfl rfl hdV_Spots_ownAt ⟨Nat.le_of_ble_eq_true rfl, Nat.le_of_ble_eq_true rfl⟩) hK hN hP hD hS hA [0, 1] [] (w0 := [(q_o, .inr (6, [.int o_width, .int o_height, .ref q_o_spotOf, .ref q_o_changes, .ref q_o_joinedX, .ref q_o_joinedY, .int o_joined, .ref q_o_facts, .int o_found, .int o_marked])), (q_o_spotOf, .inl (cI, o_spotOf_n, .inl o_spotOf_f))]) (wr := []) rfl rfl (by decide) (by decide) (by decide) 6 rfl rfl rfl hl.1 rfl (Nat.le_of_ble_eq_true rfl) d_Spots_neighboursOf_31 ⟨Nat.le_of_ble_eq_true rfl, Nat.le_of_ble_eq_true rfl⟩ (fun w1 H locs hw1 hP hD hS => ?_)
  subst hw1
  have hP : va_P (dC, dI) vwCl [(q_o, .inr (6, [.int o_width, .int o_height, .ref q_o_spotOf, .ref q_o_changes, .ref q_o_joinedX, .ref q_o_joinedY, .int o_joined, .ref q_o_facts, .int o_found, .int o_marked])), (q_o_spotOf, .inl (cI, o_spotOf_n, .inl o_spotOf_f))] H := hP
  have hD : va_D A [(q_o, .inr (6, [.int o_width, .int o_height, .ref q_o_spotOf, .ref q_o_changes, .ref q_o_joinedX, .ref q_o_joinedY, .int o_joined, .ref q_o_facts, .int o_found, .int o_marked])), (q_o_spotOf, .inl (cI, o_spotOf_n, .inl o_spotOf_f))] := hD
  refine lv_iadd hx hb d_Spots_neighboursOf_34 ?_
  cases h
  refine W.widen (k := 0) (n := 0) (Nat.le_of_ble_eq_true rfl) (Nat.le_of_ble_eq_true rfl) ?_
  exact RT 35 ls H locs _ d_Spots_neighboursOf_35 (Or.inr (Or.inl ⟨rfl, _, rfl⟩)) rfl (hP.sub [0, 1] rfl) (hD.sub [0, 1] (by decide) rfl) hS

noncomputable def p_Spots_isCrack_L1 (o_width : Int32) (o_height : Int32) (o_joined : Int32) (o_found : Int32) (o_marked : Int32) (o_spotOf_n : Nat) (o_spotOf_f : Nat → Int32) (o_joinedX_n : Nat) (o_joinedX_f : Nat → Int32) (o_joinedY_n : Nat) (o_joinedY_f : Nat → Int32) : (Int32 × Int32) → Option ((Int32 × Int32) ⊕ ((Int32 × Int32) ⊕ (Int32))) := fun ((x1_2, x2_3) : Int32 × Int32) =>
  (if o_joined ≤ x2_3 then some (.inr (.inl (x1_2, x2_3))) else pu_gd (vp_in x2_3 o_joinedX_n) (pu_gd (vp_in x2_3 o_joinedY_n) ((p_Spots_neighboursOf (o_joinedX_f x2_3.toNatClampNeg) (o_joinedY_f x2_3.toNatClampNeg) o_width o_height o_joined o_found o_marked o_spotOf_n o_spotOf_f).bind (fun (v4 : Int32) => (if v4 ≤ 2 then (if v4 = 1 then some (.inl ((x1_2 + 1), (x2_3 + 1))) else some (.inl (x1_2, (x2_3 + 1)))) else some (.inr (.inr 0)))))))
noncomputable def p_Spots_isCrack (o_width : Int32) (o_height : Int32) (o_joined : Int32) (o_found : Int32) (o_marked : Int32) (o_spotOf_n : Nat) (o_spotOf_f : Nat → Int32) (o_joinedX_n : Nat) (o_joinedX_f : Nat → Int32) (o_joinedY_n : Nat) (o_joinedY_f : Nat → Int32) : Option (Int32) :=
  (pu_loop (p_Spots_isCrack_L1 o_width o_height o_joined o_found o_marked o_spotOf_n o_spotOf_f o_joinedX_n o_joinedX_f o_joinedY_n o_joinedY_f) (0, 0)).bind (fun (e : (Int32 × Int32) ⊕ (Int32)) => match e with | .inl (y1_5, y2_6) => (if o_joined < 3 then some 0 else (if y1_5 = 2 then some 1 else some 0)) | .inr r => some r)
set_option maxHeartbeats 4000000 in
set_option maxRecDepth 100000 in
theorem c_Spots_isCrack (l : Launch) (dC : Nat → ClassId) (dI : Nat → Nat → Nat) (cI cJ cZ : ClassId) (q_o q_o_spotOf q_o_changes q_o_joinedX q_o_joinedY q_o_facts : Nat) (o_width : Int32) (o_height : Int32) (o_joined : Int32) (o_found : Int32) (o_marked : Int32) (o_spotOf_n : Nat) (o_spotOf_f : Nat → Int32) (o_joinedX_n : Nat) (o_joinedX_f : Nat → Int32) (o_joinedY_n : Nat) (o_joinedY_f : Nat → Int32) (r0 : Int32) (h : p_Spots_isCrack o_width o_height o_joined o_found o_marked o_spotOf_n o_spotOf_f o_joinedX_n o_joinedX_f o_joinedY_n o_joinedY_f = some r0) : ct l y_Spots_isCrack w_Spots_isCrack rm_Spots_isCrack (dC, dI) [(cI, .int), (cJ, .long), (cZ, .boolean)] [.ref q_o] [(q_o, .inr (6, [.int o_width, .int o_height, .ref q_o_spotOf, .ref q_o_changes, .ref q_o_joinedX, .ref q_o_joinedY, .int o_joined, .ref q_o_facts, .int o_found, .int o_marked])), (q_o_spotOf, .inl (cI, o_spotOf_n, .inl o_spotOf_f)), (q_o_joinedX, .inl (cI, o_joinedX_n, .inl o_joinedX_f)), (q_o_joinedY, .inl (cI, o_joinedY_n, .inl o_joinedY_f))] (fun w => w = [(q_o, .inr (6, [.int o_width, .int o_height, .ref q_o_spotOf, .ref q_o_changes, .ref q_o_joinedX, .ref q_o_joinedY, .int o_joined, .ref q_o_facts, .int o_found, .int o_marked])), (q_o_spotOf, .inl (cI, o_spotOf_n, .inl o_spotOf_f)), (q_o_joinedX, .inl (cI, o_joinedX_n, .inl o_joinedX_f)), (q_o_joinedY, .inl (cI, o_joinedY_n, .inl o_joinedY_f))]) (some (.int r0)) := by
  refine ct_of (cc := b_Spots_isCrack) (maxL := 4) (ret := (some .boolean)) (lv := [(0, .ref q_o)]) (by decide) rfl rfl rfl ?_
  intro p e s m args below meth c A Q H locs hx hb hml hown hts hin hA hK hN hP hD hS RT ls hl
  unfold p_Spots_isCrack at h
  refine lv_iconst (v := 0) hx hb d_Spots_isCrack_0 (by decide) ?_
  refine lv_istore_n (lv' := [(1, .int 0), (0, .ref q_o)]) hx hb d_Spots_isCrack_1 rfl hl (by decide) rfl (fun ls hl => ?_)
  refine lv_iconst (v := 0) hx hb d_Spots_isCrack_2 (by decide) ?_
  refine lv_istore_n (lv' := [(2, .int 0), (1, .int 0), (0, .ref q_o)]) hx hb d_Spots_isCrack_3 rfl hl (by decide) rfl (fun ls hl => ?_)
  obtain ⟨e_1, he_1, hx_1⟩ := pu_bd h
  obtain ⟨n_1, hn_1⟩ := pu_loop_it he_1
  have K_1 : ∀ (y1_5 : Int32) (y2_6 : Int32) (H : Heap) (locs : List Loc) (ls : Array Slot), e_1 = .inl (y1_5, y2_6) → lv_has ls 4 [(2, .int y2_6), (1, .int y1_5), (0, .ref q_o)] → va_P (dC, dI) vwCl [(q_o, .inr (6, [.int o_width, .int o_height, .ref q_o_spotOf, .ref q_o_changes, .ref q_o_joinedX, .ref q_o_joinedY, .int o_joined, .ref q_o_facts, .int o_found, .int o_marked])), (q_o_spotOf, .inl (cI, o_spotOf_n, .inl o_spotOf_f)), (q_o_joinedX, .inl (cI, o_joinedX_n, .inl o_joinedX_f)), (q_o_joinedY, .inl (cI, o_joinedY_n, .inl o_joinedY_f))] H → va_D A [(q_o, .inr (6, [.int o_width, .int o_height, .ref q_o_spotOf, .ref q_o_changes, .ref q_o_joinedX, .ref q_o_joinedY, .int o_joined, .ref q_o_facts, .int o_found, .int o_marked])), (q_o_spotOf, .inl (cI, o_spotOf_n, .inl o_spotOf_f)), (q_o_joinedX, .inl (cI, o_joinedX_n, .inl o_joinedX_f)), (q_o_joinedY, .inl (cI, o_joinedY_n, .inl o_joinedY_f))] → va_S A s.heap H locs → W p l e rm_Spots_isCrack s m args below meth c H locs 0 0 Q (F0 m 50 ls []) := by
    intro y1_5 y2_6 H locs ls he hl hP hD hS
    have h := hx_1
    rw [he] at h
    try dsimp only at h
    refine lv_aload_n hx hb d_Spots_isCrack_50 rfl (lv_at hl 2 rfl) ?_
    refine va_get (D := (dC, dI)) (ci := 6) (v := .int o_joined) (C := R_Spots) (T := F_Spots) (N := 10) hx hb hts i_Spots hown hK hP 0 rfl rfl 6 (by decide) (hts _ k_127) (fun _ h9 => h9) rfl d_Spots_isCrack_51 ?_
    refine lv_iconst (v := 3) hx hb d_Spots_isCrack_54 (by decide) ?_
    refine lv_icmp_lt (tgt := 67) hx hb d_Spots_isCrack_55 (by decide) (fun hc => ?_) (fun hc => ?_)
    · have h := pu_t hc h
      refine lv_iconst (v := 0) hx hb d_Spots_isCrack_67 (by decide) ?_
      cases h
      refine W.widen (k := 0) (n := 0) (Nat.le_of_ble_eq_true rfl) (Nat.le_of_ble_eq_true rfl) ?_
      exact RT 68 ls H locs _ d_Spots_isCrack_68 (Or.inr (Or.inr (Or.inr ⟨rfl, _, rfl, rfl⟩))) rfl (hP.sub [0, 1, 2, 3] rfl) (hD.sub [0, 1, 2, 3] (by decide) rfl) hS
    · have h := pu_f hc h
      refine lv_iload_n hx hb d_Spots_isCrack_58 rfl (lv_at hl 1 rfl) ?_
      refine lv_iconst (v := 2) hx hb d_Spots_isCrack_59 (by decide) ?_
      refine lv_icmp_ne (tgt := 67) hx hb d_Spots_isCrack_60 (by decide) (fun hc => ?_) (fun hc => ?_)
      · have h := pu_f hc h
        refine lv_iconst (v := 0) hx hb d_Spots_isCrack_67 (by decide) ?_
        cases h
        refine W.widen (k := 0) (n := 0) (Nat.le_of_ble_eq_true rfl) (Nat.le_of_ble_eq_true rfl) ?_
        exact RT 68 ls H locs _ d_Spots_isCrack_68 (Or.inr (Or.inr (Or.inr ⟨rfl, _, rfl, rfl⟩))) rfl (hP.sub [0, 1, 2, 3] rfl) (hD.sub [0, 1, 2, 3] (by decide) rfl) hS
      · have h := pu_t hc h
        refine lv_iconst (v := 1) hx hb d_Spots_isCrack_63 (by decide) ?_
        refine lv_goto (tgt := 68) hx hb d_Spots_isCrack_64 (by decide) ?_
        cases h
        refine W.widen (k := 0) (n := 0) (Nat.le_of_ble_eq_true rfl) (Nat.le_of_ble_eq_true rfl) ?_
        exact RT 68 ls H locs _ d_Spots_isCrack_68 (Or.inr (Or.inr (Or.inr ⟨rfl, _, rfl, rfl⟩))) rfl (hP.sub [0, 1, 2, 3] rfl) (hD.sub [0, 1, 2, 3] (by decide) rfl) hS
  have L_1 : ∀ (n : Nat) (x1_2 : Int32) (x2_3 : Int32) (H : Heap) (locs : List Loc) (ls : Array Slot), pu_it (p_Spots_isCrack_L1 o_width o_height o_joined o_found o_marked o_spotOf_n o_spotOf_f o_joinedX_n o_joinedX_f o_joinedY_n o_joinedY_f) n (x1_2, x2_3) = some e_1 → lv_has ls 4 [(2, .int x2_3), (1, .int x1_2), (0, .ref q_o)] → va_P (dC, dI) vwCl [(q_o, .inr (6, [.int o_width, .int o_height, .ref q_o_spotOf, .ref q_o_changes, .ref q_o_joinedX, .ref q_o_joinedY, .int o_joined, .ref q_o_facts, .int o_found, .int o_marked])), (q_o_spotOf, .inl (cI, o_spotOf_n, .inl o_spotOf_f)), (q_o_joinedX, .inl (cI, o_joinedX_n, .inl o_joinedX_f)), (q_o_joinedY, .inl (cI, o_joinedY_n, .inl o_joinedY_f))] H → va_D A [(q_o, .inr (6, [.int o_width, .int o_height, .ref q_o_spotOf, .ref q_o_changes, .ref q_o_joinedX, .ref q_o_joinedY, .int o_joined, .ref q_o_facts, .int o_found, .int o_marked])), (q_o_spotOf, .inl (cI, o_spotOf_n, .inl o_spotOf_f)), (q_o_joinedX, .inl (cI, o_joinedX_n, .inl o_joinedX_f)), (q_o_joinedY, .inl (cI, o_joinedY_n, .inl o_joinedY_f))] → va_S A s.heap H locs → W p l e rm_Spots_isCrack s m args below meth c H locs 0 0 Q (F0 m 4 ls []) := by
    intro n
    induction n with
    | zero => intro x1_2 x2_3 H locs ls hn; exact (pu_it_0 hn).elim
    | succ n ih =>
      intro x1_2 x2_3 H locs ls hn hl hP hD hS
      obtain ⟨r_1, h, hr_1⟩ := pu_it_succ hn
      unfold p_Spots_isCrack_L1 at h
      try dsimp only at h
      refine lv_iload_n hx hb d_Spots_isCrack_4 rfl (lv_at hl 0 rfl) ?_
      refine lv_aload_n hx hb d_Spots_isCrack_5 rfl (lv_at hl 2 rfl) ?_
      refine va_get (D := (dC, dI)) (ci := 6) (v := .int o_joined) (C := R_Spots) (T := F_Spots) (N := 10) hx hb hts i_Spots hown hK hP 0 rfl rfl 6 (by decide) (hts _ k_127) (fun _ h9 => h9) rfl d_Spots_isCrack_6 ?_
      refine lv_icmp_ge (tgt := 50) hx hb d_Spots_isCrack_9 (by decide) (fun hc => ?_) (fun hc => ?_)
      · have h := pu_t hc h
        cases h
        exact K_1 x1_2 x2_3 H locs ls hr_1.symm (lv_sub hl [0, 1, 2] rfl) (hP.sub [0, 1, 2, 3] rfl) (hD.sub [0, 1, 2, 3] (by decide) rfl) hS
      · have h := pu_f hc h
        refine lv_aload_n hx hb d_Spots_isCrack_12 rfl (lv_at hl 2 rfl) ?_
        refine lv_aload_n hx hb d_Spots_isCrack_13 rfl (lv_at hl 2 rfl) ?_
        refine va_get (D := (dC, dI)) (ci := 6) (v := .ref q_o_joinedX) (C := R_Spots) (T := F_Spots) (N := 10) hx hb hts i_Spots hown hK hP 0 rfl rfl 4 (by decide) (hts _ k_125) (fun _ h9 => h9) rfl d_Spots_isCrack_14 ?_
        refine lv_iload_n hx hb d_Spots_isCrack_17 rfl (lv_at hl 0 rfl) ?_
        obtain ⟨hg, h⟩ := pu_g h
        refine va_iald hx hb hK hP 2 0 rfl rfl hg d_Spots_isCrack_18 ?_
        refine lv_aload_n hx hb d_Spots_isCrack_19 rfl (lv_at hl 2 rfl) ?_
        refine va_get (D := (dC, dI)) (ci := 6) (v := .ref q_o_joinedY) (C := R_Spots) (T := F_Spots) (N := 10) hx hb hts i_Spots hown hK hP 0 rfl rfl 5 (by decide) (hts _ k_126) (fun _ h9 => h9) rfl d_Spots_isCrack_20 ?_
        refine lv_iload_n hx hb d_Spots_isCrack_23 rfl (lv_at hl 0 rfl) ?_
        obtain ⟨hg, h⟩ := pu_g h
        refine va_iald hx hb hK hP 3 0 rfl rfl hg d_Spots_isCrack_24 ?_
        obtain ⟨v4, hu4, h⟩ := pu_bd h
        refine cc_V (As := [.int (o_joinedX_f x2_3.toNatClampNeg), .int (o_joinedY_f x2_3.toNatClampNeg)]) (rest := []) ⟨hx, hb, hml, hown, hts⟩ (c_Spots_neighboursOf l dC dI cI cJ cZ q_o q_o_spotOf q_o_changes q_o_joinedX q_o_joinedY q_o_facts (o_joinedX_f x2_3.toNatClampNeg) (o_joinedY_f x2_3.toNatClampNeg) o_width o_height o_joined o_found o_marked o_spotOf_n o_spotOf_f v4 hu4) (cwV 2 hts (gV k_290 k_292 kp_9 k_7 k_293 rfl) rfl rfl rfl hdV_Spots_neighboursOf ⟨Nat.le_of_ble_eq_true rfl, Nat.le_of_ble_eq_true rfl⟩) hK hN hP hD hS hA [0, 1] [2, 3] (w0 := [(q_o, .inr (6, [.int o_width, .int o_height, .ref q_o_spotOf, .ref q_o_changes, .ref q_o_joinedX, .ref q_o_joinedY, .int o_joined, .ref q_o_facts, .int o_found, .int o_marked])), (q_o_spotOf, .inl (cI, o_spotOf_n, .inl o_spotOf_f))]) (wr := [(q_o_joinedX, .inl (cI, o_joinedX_n, .inl o_joinedX_f)), (q_o_joinedY, .inl (cI, o_joinedY_n, .inl o_joinedY_f))]) rfl rfl (by decide) (by decide) (by decide) 6 rfl rfl rfl hl.1 rfl (Nat.le_of_ble_eq_true rfl) d_Spots_isCrack_25 ⟨Nat.le_of_ble_eq_true rfl, Nat.le_of_ble_eq_true rfl⟩ (fun w1 H locs hw1 hP hD hS => ?_)
        subst hw1
        have hP : va_P (dC, dI) vwCl [(q_o_joinedX, .inl (cI, o_joinedX_n, .inl o_joinedX_f)), (q_o_joinedY, .inl (cI, o_joinedY_n, .inl o_joinedY_f)), (q_o, .inr (6, [.int o_width, .int o_height, .ref q_o_spotOf, .ref q_o_changes, .ref q_o_joinedX, .ref q_o_joinedY, .int o_joined, .ref q_o_facts, .int o_found, .int o_marked])), (q_o_spotOf, .inl (cI, o_spotOf_n, .inl o_spotOf_f))] H := hP
        have hD : va_D A [(q_o_joinedX, .inl (cI, o_joinedX_n, .inl o_joinedX_f)), (q_o_joinedY, .inl (cI, o_joinedY_n, .inl o_joinedY_f)), (q_o, .inr (6, [.int o_width, .int o_height, .ref q_o_spotOf, .ref q_o_changes, .ref q_o_joinedX, .ref q_o_joinedY, .int o_joined, .ref q_o_facts, .int o_found, .int o_marked])), (q_o_spotOf, .inl (cI, o_spotOf_n, .inl o_spotOf_f))] := hD
        refine lv_istore_n (lv' := [(3, .int v4), (2, .int x2_3), (1, .int x1_2), (0, .ref q_o)]) hx hb d_Spots_isCrack_28 rfl hl (by decide) rfl (fun ls hl => ?_)
        refine lv_iload_n hx hb d_Spots_isCrack_29 rfl (lv_at hl 0 rfl) ?_
        refine lv_iconst (v := 2) hx hb d_Spots_isCrack_30 (by decide) ?_
        refine lv_icmp_le (tgt := 36) hx hb d_Spots_isCrack_31 (by decide) (fun hc => ?_) (fun hc => ?_)
        · have h := pu_t hc h
          refine lv_iload_n hx hb d_Spots_isCrack_36 rfl (lv_at hl 0 rfl) ?_
          refine lv_iconst (v := 1) hx hb d_Spots_isCrack_37 (by decide) ?_
          refine lv_icmp_ne (tgt := 44) hx hb d_Spots_isCrack_38 (by decide) (fun hc => ?_) (fun hc => ?_)
          · have h := pu_f hc h
            refine lv_iinc (v := (x2_3 + 1)) (lv' := [(2, .int (x2_3 + 1)), (3, .int v4), (1, .int x1_2), (0, .ref q_o)]) hx hb d_Spots_isCrack_44 hl (k := 1) rfl rfl (by decide) rfl (fun ls hl => ?_)
            refine lv_goto (tgt := 4) hx hb d_Spots_isCrack_47 (by decide) ?_
            cases h
            exact ih x1_2 (x2_3 + 1) H locs ls hr_1 (lv_sub hl [0, 2, 3] rfl) (hP.sub [2, 3, 0, 1] rfl) (hD.sub [2, 3, 0, 1] (by decide) rfl) hS
          · have h := pu_t hc h
            refine lv_iinc (v := (x1_2 + 1)) (lv' := [(1, .int (x1_2 + 1)), (3, .int v4), (2, .int x2_3), (0, .ref q_o)]) hx hb d_Spots_isCrack_41 hl (k := 2) rfl rfl (by decide) rfl (fun ls hl => ?_)
            refine lv_iinc (v := (x2_3 + 1)) (lv' := [(2, .int (x2_3 + 1)), (1, .int (x1_2 + 1)), (3, .int v4), (0, .ref q_o)]) hx hb d_Spots_isCrack_44 hl (k := 2) rfl rfl (by decide) rfl (fun ls hl => ?_)
            refine lv_goto (tgt := 4) hx hb d_Spots_isCrack_47 (by decide) ?_
            cases h
            exact ih (x1_2 + 1) (x2_3 + 1) H locs ls hr_1 (lv_sub hl [0, 1, 3] rfl) (hP.sub [2, 3, 0, 1] rfl) (hD.sub [2, 3, 0, 1] (by decide) rfl) hS
        · have h := pu_f hc h
          refine lv_iconst (v := 0) hx hb d_Spots_isCrack_34 (by decide) ?_
          cases h
          have hq := hr_1
          unfold pu_k at hq
          try dsimp only at hq
          subst hq
          have h := hx_1
          try dsimp only at h
          cases h
          refine W.widen (k := 0) (n := 0) (Nat.le_of_ble_eq_true rfl) (Nat.le_of_ble_eq_true rfl) ?_
          exact RT 35 ls H locs _ d_Spots_isCrack_35 (Or.inr (Or.inr (Or.inr ⟨rfl, _, rfl, rfl⟩))) rfl (hP.sub [2, 3, 0, 1] rfl) (hD.sub [2, 3, 0, 1] (by decide) rfl) hS
  exact L_1 n_1 0 0 H locs ls hn_1 hl hP hD hS

noncomputable def p_Spots_describe_L1 (o_width : Int32) (o_joined : Int32) (o_changes_n : Nat) (o_changes_f : Nat → Int32) (o_joinedX_n : Nat) (o_joinedX_f : Nat → Int32) (o_joinedY_n : Nat) (o_joinedY_f : Nat → Int32) : (Int32 × Int32 × Int32 × Int32 × Int32 × Int32) → Option ((Int32 × Int32 × Int32 × Int32 × Int32 × Int32) ⊕ (Int32 × Int32 × Int32 × Int32 × Int32 × Int32)) := fun ((x1_2, x2_3, x3_4, x4_5, x5_6, x6_7) : Int32 × Int32 × Int32 × Int32 × Int32 × Int32) =>
  (if o_joined ≤ x6_7 then some (.inr (x1_2, x2_3, x3_4, x4_5, x5_6, x6_7)) else pu_gd (vp_in x6_7 o_joinedX_n) (pu_gd (vp_in x6_7 o_joinedY_n) (pu_gd (vp_in (((o_joinedY_f x6_7.toNatClampNeg) * o_width) + (o_joinedX_f x6_7.toNatClampNeg)) o_changes_n) (some (.inl ((x1_2 + (o_changes_f (((o_joinedY_f x6_7.toNatClampNeg) * o_width) + (o_joinedX_f x6_7.toNatClampNeg)).toNatClampNeg)), (if (o_joinedX_f x6_7.toNatClampNeg) < x2_3 then (o_joinedX_f x6_7.toNatClampNeg) else x2_3), (if (o_joinedY_f x6_7.toNatClampNeg) < x3_4 then (o_joinedY_f x6_7.toNatClampNeg) else x3_4), (if x4_5 < (o_joinedX_f x6_7.toNatClampNeg) then (o_joinedX_f x6_7.toNatClampNeg) else x4_5), (if x5_6 < (o_joinedY_f x6_7.toNatClampNeg) then (o_joinedY_f x6_7.toNatClampNeg) else x5_6), (x6_7 + 1)))))))
noncomputable def p_Spots_describe (o_width : Int32) (o_height : Int32) (o_joined : Int32) (o_found : Int32) (o_marked : Int32) (o_spotOf_n : Nat) (o_spotOf_f : Nat → Int32) (o_changes_n : Nat) (o_changes_f : Nat → Int32) (o_joinedX_n : Nat) (o_joinedX_f : Nat → Int32) (o_joinedY_n : Nat) (o_joinedY_f : Nat → Int32) (o_facts_n : Nat) (o_facts_f : Nat → Int32) : Option ((Nat → Int32)) :=
  (pu_loop (p_Spots_describe_L1 o_width o_joined o_changes_n o_changes_f o_joinedX_n o_joinedX_f o_joinedY_n o_joinedY_f) (0, o_width, o_height, 0, 0, 0)).bind (fun ((y1_8, y2_9, y3_10, y4_11, y5_12, y6_13) : Int32 × Int32 × Int32 × Int32 × Int32 × Int32) => pu_gd (vp_in ((o_found * 7) + 0) o_facts_n) (pu_gd (vp_in ((o_found * 7) + 1) o_facts_n) (pu_gd (vp_in ((o_found * 7) + 2) o_facts_n) (pu_gd (vp_in ((o_found * 7) + 3) o_facts_n) (pu_gd (vp_in ((o_found * 7) + 4) o_facts_n) (pu_gd (vp_in ((o_found * 7) + 5) o_facts_n) ((p_Spots_isCrack o_width o_height o_joined o_found o_marked o_spotOf_n o_spotOf_f o_joinedX_n o_joinedX_f o_joinedY_n o_joinedY_f).bind (fun (v14 : Int32) => (if v14 = 0 then pu_gd (vp_in ((o_found * 7) + 6) o_facts_n) (some (upd (upd (upd (upd (upd (upd (upd o_facts_f ((o_found * 7) + 0).toNatClampNeg o_joined) ((o_found * 7) + 1).toNatClampNeg y1_8) ((o_found * 7) + 2).toNatClampNeg y2_9) ((o_found * 7) + 3).toNatClampNeg y3_10) ((o_found * 7) + 4).toNatClampNeg y4_11) ((o_found * 7) + 5).toNatClampNeg y5_12) ((o_found * 7) + 6).toNatClampNeg (-1))) else pu_gd (vp_in ((o_found * 7) + 6) o_facts_n) (some (upd (upd (upd (upd (upd (upd (upd o_facts_f ((o_found * 7) + 0).toNatClampNeg o_joined) ((o_found * 7) + 1).toNatClampNeg y1_8) ((o_found * 7) + 2).toNatClampNeg y2_9) ((o_found * 7) + 3).toNatClampNeg y3_10) ((o_found * 7) + 4).toNatClampNeg y4_11) ((o_found * 7) + 5).toNatClampNeg y5_12) ((o_found * 7) + 6).toNatClampNeg (o_joined - 1))))))))))))
set_option maxHeartbeats 4000000 in
set_option maxRecDepth 100000 in
theorem c_Spots_describe (l : Launch) (dC : Nat → ClassId) (dI : Nat → Nat → Nat) (cI cJ cZ : ClassId) (q_o q_o_spotOf q_o_changes q_o_joinedX q_o_joinedY q_o_facts : Nat) (o_width : Int32) (o_height : Int32) (o_joined : Int32) (o_found : Int32) (o_marked : Int32) (o_spotOf_n : Nat) (o_spotOf_f : Nat → Int32) (o_changes_n : Nat) (o_changes_f : Nat → Int32) (o_joinedX_n : Nat) (o_joinedX_f : Nat → Int32) (o_joinedY_n : Nat) (o_joinedY_f : Nat → Int32) (o_facts_n : Nat) (o_facts_f : Nat → Int32) (r0 : Nat → Int32) (h : p_Spots_describe o_width o_height o_joined o_found o_marked o_spotOf_n o_spotOf_f o_changes_n o_changes_f o_joinedX_n o_joinedX_f o_joinedY_n o_joinedY_f o_facts_n o_facts_f = some r0) : ct l y_Spots_describe w_Spots_describe rm_Spots_describe (dC, dI) [(cI, .int), (cJ, .long), (cZ, .boolean)] [.ref q_o] [(q_o, .inr (6, [.int o_width, .int o_height, .ref q_o_spotOf, .ref q_o_changes, .ref q_o_joinedX, .ref q_o_joinedY, .int o_joined, .ref q_o_facts, .int o_found, .int o_marked])), (q_o_spotOf, .inl (cI, o_spotOf_n, .inl o_spotOf_f)), (q_o_changes, .inl (cI, o_changes_n, .inl o_changes_f)), (q_o_joinedX, .inl (cI, o_joinedX_n, .inl o_joinedX_f)), (q_o_joinedY, .inl (cI, o_joinedY_n, .inl o_joinedY_f)), (q_o_facts, .inl (cI, o_facts_n, .inl o_facts_f))] (fun w => w = [(q_o, .inr (6, [.int o_width, .int o_height, .ref q_o_spotOf, .ref q_o_changes, .ref q_o_joinedX, .ref q_o_joinedY, .int o_joined, .ref q_o_facts, .int o_found, .int o_marked])), (q_o_spotOf, .inl (cI, o_spotOf_n, .inl o_spotOf_f)), (q_o_changes, .inl (cI, o_changes_n, .inl o_changes_f)), (q_o_joinedX, .inl (cI, o_joinedX_n, .inl o_joinedX_f)), (q_o_joinedY, .inl (cI, o_joinedY_n, .inl o_joinedY_f)), (q_o_facts, .inl (cI, o_facts_n, .inl r0))]) none := by
  refine ct_of (cc := b_Spots_describe) (maxL := 9) (ret := none) (lv := [(0, .ref q_o)]) (by decide) rfl rfl rfl ?_
  intro p e s m args below meth c A Q H locs hx hb hml hown hts hin hA hK hN hP hD hS RT ls hl
  unfold p_Spots_describe at h
  refine lv_iconst (v := 0) hx hb d_Spots_describe_0 (by decide) ?_
  refine lv_istore_n (lv' := [(1, .int 0), (0, .ref q_o)]) hx hb d_Spots_describe_1 rfl hl (by decide) rfl (fun ls hl => ?_)
  refine lv_aload_n hx hb d_Spots_describe_2 rfl (lv_at hl 1 rfl) ?_
  refine va_get (D := (dC, dI)) (ci := 6) (v := .int o_width) (C := R_Spots) (T := F_Spots) (N := 10) hx hb hts i_Spots hown hK hP 0 rfl rfl 0 (by decide) (hts _ k_121) (fun _ h9 => h9) rfl d_Spots_describe_3 ?_
  refine lv_istore_n (lv' := [(2, .int o_width), (1, .int 0), (0, .ref q_o)]) hx hb d_Spots_describe_6 rfl hl (by decide) rfl (fun ls hl => ?_)
  refine lv_aload_n hx hb d_Spots_describe_7 rfl (lv_at hl 2 rfl) ?_
  refine va_get (D := (dC, dI)) (ci := 6) (v := .int o_height) (C := R_Spots) (T := F_Spots) (N := 10) hx hb hts i_Spots hown hK hP 0 rfl rfl 1 (by decide) (hts _ k_122) (fun _ h9 => h9) rfl d_Spots_describe_8 ?_
  refine lv_istore_n (lv' := [(3, .int o_height), (2, .int o_width), (1, .int 0), (0, .ref q_o)]) hx hb d_Spots_describe_11 rfl hl (by decide) rfl (fun ls hl => ?_)
  refine lv_iconst (v := 0) hx hb d_Spots_describe_12 (by decide) ?_
  refine lv_istore (lv' := [(4, .int 0), (3, .int o_height), (2, .int o_width), (1, .int 0), (0, .ref q_o)]) hx hb d_Spots_describe_13 hl (by decide) rfl (fun ls hl => ?_)
  refine lv_iconst (v := 0) hx hb d_Spots_describe_15 (by decide) ?_
  refine lv_istore (lv' := [(5, .int 0), (4, .int 0), (3, .int o_height), (2, .int o_width), (1, .int 0), (0, .ref q_o)]) hx hb d_Spots_describe_16 hl (by decide) rfl (fun ls hl => ?_)
  refine lv_iconst (v := 0) hx hb d_Spots_describe_18 (by decide) ?_
  refine lv_istore (lv' := [(6, .int 0), (5, .int 0), (4, .int 0), (3, .int o_height), (2, .int o_width), (1, .int 0), (0, .ref q_o)]) hx hb d_Spots_describe_19 hl (by decide) rfl (fun ls hl => ?_)
  obtain ⟨e_1, he_1, hx_1⟩ := pu_bd h
  obtain ⟨n_1, hn_1⟩ := pu_loop_it he_1
  have K_1 : ∀ (y1_8 : Int32) (y2_9 : Int32) (y3_10 : Int32) (y4_11 : Int32) (y5_12 : Int32) (y6_13 : Int32) (H : Heap) (locs : List Loc) (ls : Array Slot), e_1 = (y1_8, y2_9, y3_10, y4_11, y5_12, y6_13) → lv_has ls 9 [(6, .int y6_13), (5, .int y5_12), (4, .int y4_11), (3, .int y3_10), (2, .int y2_9), (1, .int y1_8), (0, .ref q_o)] → va_P (dC, dI) vwCl [(q_o, .inr (6, [.int o_width, .int o_height, .ref q_o_spotOf, .ref q_o_changes, .ref q_o_joinedX, .ref q_o_joinedY, .int o_joined, .ref q_o_facts, .int o_found, .int o_marked])), (q_o_spotOf, .inl (cI, o_spotOf_n, .inl o_spotOf_f)), (q_o_changes, .inl (cI, o_changes_n, .inl o_changes_f)), (q_o_joinedX, .inl (cI, o_joinedX_n, .inl o_joinedX_f)), (q_o_joinedY, .inl (cI, o_joinedY_n, .inl o_joinedY_f)), (q_o_facts, .inl (cI, o_facts_n, .inl o_facts_f))] H → va_D A [(q_o, .inr (6, [.int o_width, .int o_height, .ref q_o_spotOf, .ref q_o_changes, .ref q_o_joinedX, .ref q_o_joinedY, .int o_joined, .ref q_o_facts, .int o_found, .int o_marked])), (q_o_spotOf, .inl (cI, o_spotOf_n, .inl o_spotOf_f)), (q_o_changes, .inl (cI, o_changes_n, .inl o_changes_f)), (q_o_joinedX, .inl (cI, o_joinedX_n, .inl o_joinedX_f)), (q_o_joinedY, .inl (cI, o_joinedY_n, .inl o_joinedY_f)), (q_o_facts, .inl (cI, o_facts_n, .inl o_facts_f))] → va_S A s.heap H locs → W p l e rm_Spots_describe s m args below meth c H locs 0 0 Q (F0 m 104 ls []) := by
    intro y1_8 y2_9 y3_10 y4_11 y5_12 y6_13 H locs ls he hl hP hD hS
    have h := hx_1
    rw [he] at h
    try dsimp only at h
    refine lv_aload_n hx hb d_Spots_describe_104 rfl (lv_at hl 6 rfl) ?_
    refine va_get (D := (dC, dI)) (ci := 6) (v := .int o_found) (C := R_Spots) (T := F_Spots) (N := 10) hx hb hts i_Spots hown hK hP 0 rfl rfl 8 (by decide) (hts _ k_129) (fun _ h9 => h9) rfl d_Spots_describe_105 ?_
    refine lv_bipush (v := 7) hx hb d_Spots_describe_108 (by decide) ?_
    refine lv_imul hx hb d_Spots_describe_110 ?_
    refine lv_istore (lv' := [(6, .int (o_found * 7)), (5, .int y5_12), (4, .int y4_11), (3, .int y3_10), (2, .int y2_9), (1, .int y1_8), (0, .ref q_o)]) hx hb d_Spots_describe_111 hl (by decide) rfl (fun ls hl => ?_)
    refine lv_aload_n hx hb d_Spots_describe_113 rfl (lv_at hl 6 rfl) ?_
    refine va_get (D := (dC, dI)) (ci := 6) (v := .ref q_o_facts) (C := R_Spots) (T := F_Spots) (N := 10) hx hb hts i_Spots hown hK hP 0 rfl rfl 7 (by decide) (hts _ k_128) (fun _ h9 => h9) rfl d_Spots_describe_114 ?_
    refine lv_iload hx hb d_Spots_describe_117 (lv_at hl 0 rfl) ?_
    refine lv_iconst (v := 0) hx hb d_Spots_describe_119 (by decide) ?_
    refine lv_iadd hx hb d_Spots_describe_120 ?_
    refine lv_aload_n hx hb d_Spots_describe_121 rfl (lv_at hl 6 rfl) ?_
    refine va_get (D := (dC, dI)) (ci := 6) (v := .int o_joined) (C := R_Spots) (T := F_Spots) (N := 10) hx hb hts i_Spots hown hK hP 0 rfl rfl 6 (by decide) (hts _ k_127) (fun _ h9 => h9) rfl d_Spots_describe_122 ?_
    obtain ⟨hg, h⟩ := pu_g h
    refine va_iast hx hb hK hP hD hS 5 0 rfl rfl hg d_Spots_describe_125 (fun H locs hP hD hS => ?_)
    have hP : va_P (dC, dI) vwCl [(q_o, .inr (6, [.int o_width, .int o_height, .ref q_o_spotOf, .ref q_o_changes, .ref q_o_joinedX, .ref q_o_joinedY, .int o_joined, .ref q_o_facts, .int o_found, .int o_marked])), (q_o_spotOf, .inl (cI, o_spotOf_n, .inl o_spotOf_f)), (q_o_changes, .inl (cI, o_changes_n, .inl o_changes_f)), (q_o_joinedX, .inl (cI, o_joinedX_n, .inl o_joinedX_f)), (q_o_joinedY, .inl (cI, o_joinedY_n, .inl o_joinedY_f)), (q_o_facts, .inl (cI, o_facts_n, .inl (upd o_facts_f ((o_found * 7) + 0).toNatClampNeg o_joined)))] H := hP
    have hD : va_D A [(q_o, .inr (6, [.int o_width, .int o_height, .ref q_o_spotOf, .ref q_o_changes, .ref q_o_joinedX, .ref q_o_joinedY, .int o_joined, .ref q_o_facts, .int o_found, .int o_marked])), (q_o_spotOf, .inl (cI, o_spotOf_n, .inl o_spotOf_f)), (q_o_changes, .inl (cI, o_changes_n, .inl o_changes_f)), (q_o_joinedX, .inl (cI, o_joinedX_n, .inl o_joinedX_f)), (q_o_joinedY, .inl (cI, o_joinedY_n, .inl o_joinedY_f)), (q_o_facts, .inl (cI, o_facts_n, .inl (upd o_facts_f ((o_found * 7) + 0).toNatClampNeg o_joined)))] := hD
    refine lv_aload_n hx hb d_Spots_describe_126 rfl (lv_at hl 6 rfl) ?_
    refine va_get (D := (dC, dI)) (ci := 6) (v := .ref q_o_facts) (C := R_Spots) (T := F_Spots) (N := 10) hx hb hts i_Spots hown hK hP 0 rfl rfl 7 (by decide) (hts _ k_128) (fun _ h9 => h9) rfl d_Spots_describe_127 ?_
    refine lv_iload hx hb d_Spots_describe_130 (lv_at hl 0 rfl) ?_
    refine lv_iconst (v := 1) hx hb d_Spots_describe_132 (by decide) ?_
    refine lv_iadd hx hb d_Spots_describe_133 ?_
    refine lv_iload_n hx hb d_Spots_describe_134 rfl (lv_at hl 5 rfl) ?_
    obtain ⟨hg, h⟩ := pu_g h
    refine va_iast hx hb hK hP hD hS 5 0 rfl rfl hg d_Spots_describe_135 (fun H locs hP hD hS => ?_)
    have hP : va_P (dC, dI) vwCl [(q_o, .inr (6, [.int o_width, .int o_height, .ref q_o_spotOf, .ref q_o_changes, .ref q_o_joinedX, .ref q_o_joinedY, .int o_joined, .ref q_o_facts, .int o_found, .int o_marked])), (q_o_spotOf, .inl (cI, o_spotOf_n, .inl o_spotOf_f)), (q_o_changes, .inl (cI, o_changes_n, .inl o_changes_f)), (q_o_joinedX, .inl (cI, o_joinedX_n, .inl o_joinedX_f)), (q_o_joinedY, .inl (cI, o_joinedY_n, .inl o_joinedY_f)), (q_o_facts, .inl (cI, o_facts_n, .inl (upd (upd o_facts_f ((o_found * 7) + 0).toNatClampNeg o_joined) ((o_found * 7) + 1).toNatClampNeg y1_8)))] H := hP
    have hD : va_D A [(q_o, .inr (6, [.int o_width, .int o_height, .ref q_o_spotOf, .ref q_o_changes, .ref q_o_joinedX, .ref q_o_joinedY, .int o_joined, .ref q_o_facts, .int o_found, .int o_marked])), (q_o_spotOf, .inl (cI, o_spotOf_n, .inl o_spotOf_f)), (q_o_changes, .inl (cI, o_changes_n, .inl o_changes_f)), (q_o_joinedX, .inl (cI, o_joinedX_n, .inl o_joinedX_f)), (q_o_joinedY, .inl (cI, o_joinedY_n, .inl o_joinedY_f)), (q_o_facts, .inl (cI, o_facts_n, .inl (upd (upd o_facts_f ((o_found * 7) + 0).toNatClampNeg o_joined) ((o_found * 7) + 1).toNatClampNeg y1_8)))] := hD
    refine lv_aload_n hx hb d_Spots_describe_136 rfl (lv_at hl 6 rfl) ?_
    refine va_get (D := (dC, dI)) (ci := 6) (v := .ref q_o_facts) (C := R_Spots) (T := F_Spots) (N := 10) hx hb hts i_Spots hown hK hP 0 rfl rfl 7 (by decide) (hts _ k_128) (fun _ h9 => h9) rfl d_Spots_describe_137 ?_
    refine lv_iload hx hb d_Spots_describe_140 (lv_at hl 0 rfl) ?_
    refine lv_iconst (v := 2) hx hb d_Spots_describe_142 (by decide) ?_
    refine lv_iadd hx hb d_Spots_describe_143 ?_
    refine lv_iload_n hx hb d_Spots_describe_144 rfl (lv_at hl 4 rfl) ?_
    obtain ⟨hg, h⟩ := pu_g h
    refine va_iast hx hb hK hP hD hS 5 0 rfl rfl hg d_Spots_describe_145 (fun H locs hP hD hS => ?_)
    have hP : va_P (dC, dI) vwCl [(q_o, .inr (6, [.int o_width, .int o_height, .ref q_o_spotOf, .ref q_o_changes, .ref q_o_joinedX, .ref q_o_joinedY, .int o_joined, .ref q_o_facts, .int o_found, .int o_marked])), (q_o_spotOf, .inl (cI, o_spotOf_n, .inl o_spotOf_f)), (q_o_changes, .inl (cI, o_changes_n, .inl o_changes_f)), (q_o_joinedX, .inl (cI, o_joinedX_n, .inl o_joinedX_f)), (q_o_joinedY, .inl (cI, o_joinedY_n, .inl o_joinedY_f)), (q_o_facts, .inl (cI, o_facts_n, .inl (upd (upd (upd o_facts_f ((o_found * 7) + 0).toNatClampNeg o_joined) ((o_found * 7) + 1).toNatClampNeg y1_8) ((o_found * 7) + 2).toNatClampNeg y2_9)))] H := hP
    have hD : va_D A [(q_o, .inr (6, [.int o_width, .int o_height, .ref q_o_spotOf, .ref q_o_changes, .ref q_o_joinedX, .ref q_o_joinedY, .int o_joined, .ref q_o_facts, .int o_found, .int o_marked])), (q_o_spotOf, .inl (cI, o_spotOf_n, .inl o_spotOf_f)), (q_o_changes, .inl (cI, o_changes_n, .inl o_changes_f)), (q_o_joinedX, .inl (cI, o_joinedX_n, .inl o_joinedX_f)), (q_o_joinedY, .inl (cI, o_joinedY_n, .inl o_joinedY_f)), (q_o_facts, .inl (cI, o_facts_n, .inl (upd (upd (upd o_facts_f ((o_found * 7) + 0).toNatClampNeg o_joined) ((o_found * 7) + 1).toNatClampNeg y1_8) ((o_found * 7) + 2).toNatClampNeg y2_9)))] := hD
    refine lv_aload_n hx hb d_Spots_describe_146 rfl (lv_at hl 6 rfl) ?_
    refine va_get (D := (dC, dI)) (ci := 6) (v := .ref q_o_facts) (C := R_Spots) (T := F_Spots) (N := 10) hx hb hts i_Spots hown hK hP 0 rfl rfl 7 (by decide) (hts _ k_128) (fun _ h9 => h9) rfl d_Spots_describe_147 ?_
    refine lv_iload hx hb d_Spots_describe_150 (lv_at hl 0 rfl) ?_
    refine lv_iconst (v := 3) hx hb d_Spots_describe_152 (by decide) ?_
    refine lv_iadd hx hb d_Spots_describe_153 ?_
    refine lv_iload_n hx hb d_Spots_describe_154 rfl (lv_at hl 3 rfl) ?_
    obtain ⟨hg, h⟩ := pu_g h
    refine va_iast hx hb hK hP hD hS 5 0 rfl rfl hg d_Spots_describe_155 (fun H locs hP hD hS => ?_)
    have hP : va_P (dC, dI) vwCl [(q_o, .inr (6, [.int o_width, .int o_height, .ref q_o_spotOf, .ref q_o_changes, .ref q_o_joinedX, .ref q_o_joinedY, .int o_joined, .ref q_o_facts, .int o_found, .int o_marked])), (q_o_spotOf, .inl (cI, o_spotOf_n, .inl o_spotOf_f)), (q_o_changes, .inl (cI, o_changes_n, .inl o_changes_f)), (q_o_joinedX, .inl (cI, o_joinedX_n, .inl o_joinedX_f)), (q_o_joinedY, .inl (cI, o_joinedY_n, .inl o_joinedY_f)), (q_o_facts, .inl (cI, o_facts_n, .inl (upd (upd (upd (upd o_facts_f ((o_found * 7) + 0).toNatClampNeg o_joined) ((o_found * 7) + 1).toNatClampNeg y1_8) ((o_found * 7) + 2).toNatClampNeg y2_9) ((o_found * 7) + 3).toNatClampNeg y3_10)))] H := hP
    have hD : va_D A [(q_o, .inr (6, [.int o_width, .int o_height, .ref q_o_spotOf, .ref q_o_changes, .ref q_o_joinedX, .ref q_o_joinedY, .int o_joined, .ref q_o_facts, .int o_found, .int o_marked])), (q_o_spotOf, .inl (cI, o_spotOf_n, .inl o_spotOf_f)), (q_o_changes, .inl (cI, o_changes_n, .inl o_changes_f)), (q_o_joinedX, .inl (cI, o_joinedX_n, .inl o_joinedX_f)), (q_o_joinedY, .inl (cI, o_joinedY_n, .inl o_joinedY_f)), (q_o_facts, .inl (cI, o_facts_n, .inl (upd (upd (upd (upd o_facts_f ((o_found * 7) + 0).toNatClampNeg o_joined) ((o_found * 7) + 1).toNatClampNeg y1_8) ((o_found * 7) + 2).toNatClampNeg y2_9) ((o_found * 7) + 3).toNatClampNeg y3_10)))] := hD
    refine lv_aload_n hx hb d_Spots_describe_156 rfl (lv_at hl 6 rfl) ?_
    refine va_get (D := (dC, dI)) (ci := 6) (v := .ref q_o_facts) (C := R_Spots) (T := F_Spots) (N := 10) hx hb hts i_Spots hown hK hP 0 rfl rfl 7 (by decide) (hts _ k_128) (fun _ h9 => h9) rfl d_Spots_describe_157 ?_
    refine lv_iload hx hb d_Spots_describe_160 (lv_at hl 0 rfl) ?_
    refine lv_iconst (v := 4) hx hb d_Spots_describe_162 (by decide) ?_
    refine lv_iadd hx hb d_Spots_describe_163 ?_
    refine lv_iload hx hb d_Spots_describe_164 (lv_at hl 2 rfl) ?_
    obtain ⟨hg, h⟩ := pu_g h
    refine va_iast hx hb hK hP hD hS 5 0 rfl rfl hg d_Spots_describe_166 (fun H locs hP hD hS => ?_)
    have hP : va_P (dC, dI) vwCl [(q_o, .inr (6, [.int o_width, .int o_height, .ref q_o_spotOf, .ref q_o_changes, .ref q_o_joinedX, .ref q_o_joinedY, .int o_joined, .ref q_o_facts, .int o_found, .int o_marked])), (q_o_spotOf, .inl (cI, o_spotOf_n, .inl o_spotOf_f)), (q_o_changes, .inl (cI, o_changes_n, .inl o_changes_f)), (q_o_joinedX, .inl (cI, o_joinedX_n, .inl o_joinedX_f)), (q_o_joinedY, .inl (cI, o_joinedY_n, .inl o_joinedY_f)), (q_o_facts, .inl (cI, o_facts_n, .inl (upd (upd (upd (upd (upd o_facts_f ((o_found * 7) + 0).toNatClampNeg o_joined) ((o_found * 7) + 1).toNatClampNeg y1_8) ((o_found * 7) + 2).toNatClampNeg y2_9) ((o_found * 7) + 3).toNatClampNeg y3_10) ((o_found * 7) + 4).toNatClampNeg y4_11)))] H := hP
    have hD : va_D A [(q_o, .inr (6, [.int o_width, .int o_height, .ref q_o_spotOf, .ref q_o_changes, .ref q_o_joinedX, .ref q_o_joinedY, .int o_joined, .ref q_o_facts, .int o_found, .int o_marked])), (q_o_spotOf, .inl (cI, o_spotOf_n, .inl o_spotOf_f)), (q_o_changes, .inl (cI, o_changes_n, .inl o_changes_f)), (q_o_joinedX, .inl (cI, o_joinedX_n, .inl o_joinedX_f)), (q_o_joinedY, .inl (cI, o_joinedY_n, .inl o_joinedY_f)), (q_o_facts, .inl (cI, o_facts_n, .inl (upd (upd (upd (upd (upd o_facts_f ((o_found * 7) + 0).toNatClampNeg o_joined) ((o_found * 7) + 1).toNatClampNeg y1_8) ((o_found * 7) + 2).toNatClampNeg y2_9) ((o_found * 7) + 3).toNatClampNeg y3_10) ((o_found * 7) + 4).toNatClampNeg y4_11)))] := hD
    refine lv_aload_n hx hb d_Spots_describe_167 rfl (lv_at hl 6 rfl) ?_
    refine va_get (D := (dC, dI)) (ci := 6) (v := .ref q_o_facts) (C := R_Spots) (T := F_Spots) (N := 10) hx hb hts i_Spots hown hK hP 0 rfl rfl 7 (by decide) (hts _ k_128) (fun _ h9 => h9) rfl d_Spots_describe_168 ?_
    refine lv_iload hx hb d_Spots_describe_171 (lv_at hl 0 rfl) ?_
    refine lv_iconst (v := 5) hx hb d_Spots_describe_173 (by decide) ?_
    refine lv_iadd hx hb d_Spots_describe_174 ?_
    refine lv_iload hx hb d_Spots_describe_175 (lv_at hl 1 rfl) ?_
    obtain ⟨hg, h⟩ := pu_g h
    refine va_iast hx hb hK hP hD hS 5 0 rfl rfl hg d_Spots_describe_177 (fun H locs hP hD hS => ?_)
    have hP : va_P (dC, dI) vwCl [(q_o, .inr (6, [.int o_width, .int o_height, .ref q_o_spotOf, .ref q_o_changes, .ref q_o_joinedX, .ref q_o_joinedY, .int o_joined, .ref q_o_facts, .int o_found, .int o_marked])), (q_o_spotOf, .inl (cI, o_spotOf_n, .inl o_spotOf_f)), (q_o_changes, .inl (cI, o_changes_n, .inl o_changes_f)), (q_o_joinedX, .inl (cI, o_joinedX_n, .inl o_joinedX_f)), (q_o_joinedY, .inl (cI, o_joinedY_n, .inl o_joinedY_f)), (q_o_facts, .inl (cI, o_facts_n, .inl (upd (upd (upd (upd (upd (upd o_facts_f ((o_found * 7) + 0).toNatClampNeg o_joined) ((o_found * 7) + 1).toNatClampNeg y1_8) ((o_found * 7) + 2).toNatClampNeg y2_9) ((o_found * 7) + 3).toNatClampNeg y3_10) ((o_found * 7) + 4).toNatClampNeg y4_11) ((o_found * 7) + 5).toNatClampNeg y5_12)))] H := hP
    have hD : va_D A [(q_o, .inr (6, [.int o_width, .int o_height, .ref q_o_spotOf, .ref q_o_changes, .ref q_o_joinedX, .ref q_o_joinedY, .int o_joined, .ref q_o_facts, .int o_found, .int o_marked])), (q_o_spotOf, .inl (cI, o_spotOf_n, .inl o_spotOf_f)), (q_o_changes, .inl (cI, o_changes_n, .inl o_changes_f)), (q_o_joinedX, .inl (cI, o_joinedX_n, .inl o_joinedX_f)), (q_o_joinedY, .inl (cI, o_joinedY_n, .inl o_joinedY_f)), (q_o_facts, .inl (cI, o_facts_n, .inl (upd (upd (upd (upd (upd (upd o_facts_f ((o_found * 7) + 0).toNatClampNeg o_joined) ((o_found * 7) + 1).toNatClampNeg y1_8) ((o_found * 7) + 2).toNatClampNeg y2_9) ((o_found * 7) + 3).toNatClampNeg y3_10) ((o_found * 7) + 4).toNatClampNeg y4_11) ((o_found * 7) + 5).toNatClampNeg y5_12)))] := hD
    refine lv_aload_n hx hb d_Spots_describe_178 rfl (lv_at hl 6 rfl) ?_
    refine va_get (D := (dC, dI)) (ci := 6) (v := .ref q_o_facts) (C := R_Spots) (T := F_Spots) (N := 10) hx hb hts i_Spots hown hK hP 0 rfl rfl 7 (by decide) (hts _ k_128) (fun _ h9 => h9) rfl d_Spots_describe_179 ?_
    refine lv_iload hx hb d_Spots_describe_182 (lv_at hl 0 rfl) ?_
    refine lv_bipush (v := 6) hx hb d_Spots_describe_184 (by decide) ?_
    refine lv_iadd hx hb d_Spots_describe_186 ?_
    refine lv_aload_n hx hb d_Spots_describe_187 rfl (lv_at hl 6 rfl) ?_
    obtain ⟨v14, hu14, h⟩ := pu_bd h
    refine cc_V (As := []) (rest := [.int ((o_found * 7) + 6), .ref q_o_facts]) ⟨hx, hb, hml, hown, hts⟩ (c_Spots_isCrack l dC dI cI cJ cZ q_o q_o_spotOf q_o_changes q_o_joinedX q_o_joinedY q_o_facts o_width o_height o_joined o_found o_marked o_spotOf_n o_spotOf_f o_joinedX_n o_joinedX_f o_joinedY_n o_joinedY_f v14 hu14) (cwV 0 hts (gV k_286 k_288 kp_8 k_7 k_289 rfl) rfl rfl rfl hdV_Spots_isCrack ⟨Nat.le_of_ble_eq_true rfl, Nat.le_of_ble_eq_true rfl⟩) hK hN hP hD hS hA [0, 1, 3, 4] [2, 5] (w0 := [(q_o, .inr (6, [.int o_width, .int o_height, .ref q_o_spotOf, .ref q_o_changes, .ref q_o_joinedX, .ref q_o_joinedY, .int o_joined, .ref q_o_facts, .int o_found, .int o_marked])), (q_o_spotOf, .inl (cI, o_spotOf_n, .inl o_spotOf_f)), (q_o_joinedX, .inl (cI, o_joinedX_n, .inl o_joinedX_f)), (q_o_joinedY, .inl (cI, o_joinedY_n, .inl o_joinedY_f))]) (wr := [(q_o_changes, .inl (cI, o_changes_n, .inl o_changes_f)), (q_o_facts, .inl (cI, o_facts_n, .inl (upd (upd (upd (upd (upd (upd o_facts_f ((o_found * 7) + 0).toNatClampNeg o_joined) ((o_found * 7) + 1).toNatClampNeg y1_8) ((o_found * 7) + 2).toNatClampNeg y2_9) ((o_found * 7) + 3).toNatClampNeg y3_10) ((o_found * 7) + 4).toNatClampNeg y4_11) ((o_found * 7) + 5).toNatClampNeg y5_12)))]) rfl rfl (by decide) (by decide) (by decide) 6 rfl rfl rfl hl.1 rfl (Nat.le_of_ble_eq_true rfl) d_Spots_describe_188 ⟨Nat.le_of_ble_eq_true rfl, Nat.le_of_ble_eq_true rfl⟩ (fun w1 H locs hw1 hP hD hS => ?_)
    subst hw1
    have hP : va_P (dC, dI) vwCl [(q_o_changes, .inl (cI, o_changes_n, .inl o_changes_f)), (q_o_facts, .inl (cI, o_facts_n, .inl (upd (upd (upd (upd (upd (upd o_facts_f ((o_found * 7) + 0).toNatClampNeg o_joined) ((o_found * 7) + 1).toNatClampNeg y1_8) ((o_found * 7) + 2).toNatClampNeg y2_9) ((o_found * 7) + 3).toNatClampNeg y3_10) ((o_found * 7) + 4).toNatClampNeg y4_11) ((o_found * 7) + 5).toNatClampNeg y5_12))), (q_o, .inr (6, [.int o_width, .int o_height, .ref q_o_spotOf, .ref q_o_changes, .ref q_o_joinedX, .ref q_o_joinedY, .int o_joined, .ref q_o_facts, .int o_found, .int o_marked])), (q_o_spotOf, .inl (cI, o_spotOf_n, .inl o_spotOf_f)), (q_o_joinedX, .inl (cI, o_joinedX_n, .inl o_joinedX_f)), (q_o_joinedY, .inl (cI, o_joinedY_n, .inl o_joinedY_f))] H := hP
    have hD : va_D A [(q_o_changes, .inl (cI, o_changes_n, .inl o_changes_f)), (q_o_facts, .inl (cI, o_facts_n, .inl (upd (upd (upd (upd (upd (upd o_facts_f ((o_found * 7) + 0).toNatClampNeg o_joined) ((o_found * 7) + 1).toNatClampNeg y1_8) ((o_found * 7) + 2).toNatClampNeg y2_9) ((o_found * 7) + 3).toNatClampNeg y3_10) ((o_found * 7) + 4).toNatClampNeg y4_11) ((o_found * 7) + 5).toNatClampNeg y5_12))), (q_o, .inr (6, [.int o_width, .int o_height, .ref q_o_spotOf, .ref q_o_changes, .ref q_o_joinedX, .ref q_o_joinedY, .int o_joined, .ref q_o_facts, .int o_found, .int o_marked])), (q_o_spotOf, .inl (cI, o_spotOf_n, .inl o_spotOf_f)), (q_o_joinedX, .inl (cI, o_joinedX_n, .inl o_joinedX_f)), (q_o_joinedY, .inl (cI, o_joinedY_n, .inl o_joinedY_f))] := hD
    refine lv_if_eq (tgt := 203) hx hb d_Spots_describe_191 (by decide) (fun hc => ?_) (fun hc => ?_)
    · have h := pu_t hc h
      refine lv_iconst (v := (-1)) hx hb d_Spots_describe_203 (by decide) ?_
      obtain ⟨hg, h⟩ := pu_g h
      refine va_iast hx hb hK hP hD hS 1 0 rfl rfl hg d_Spots_describe_204 (fun H locs hP hD hS => ?_)
      have hP : va_P (dC, dI) vwCl [(q_o_changes, .inl (cI, o_changes_n, .inl o_changes_f)), (q_o_facts, .inl (cI, o_facts_n, .inl (upd (upd (upd (upd (upd (upd (upd o_facts_f ((o_found * 7) + 0).toNatClampNeg o_joined) ((o_found * 7) + 1).toNatClampNeg y1_8) ((o_found * 7) + 2).toNatClampNeg y2_9) ((o_found * 7) + 3).toNatClampNeg y3_10) ((o_found * 7) + 4).toNatClampNeg y4_11) ((o_found * 7) + 5).toNatClampNeg y5_12) ((o_found * 7) + 6).toNatClampNeg (-1)))), (q_o, .inr (6, [.int o_width, .int o_height, .ref q_o_spotOf, .ref q_o_changes, .ref q_o_joinedX, .ref q_o_joinedY, .int o_joined, .ref q_o_facts, .int o_found, .int o_marked])), (q_o_spotOf, .inl (cI, o_spotOf_n, .inl o_spotOf_f)), (q_o_joinedX, .inl (cI, o_joinedX_n, .inl o_joinedX_f)), (q_o_joinedY, .inl (cI, o_joinedY_n, .inl o_joinedY_f))] H := hP
      have hD : va_D A [(q_o_changes, .inl (cI, o_changes_n, .inl o_changes_f)), (q_o_facts, .inl (cI, o_facts_n, .inl (upd (upd (upd (upd (upd (upd (upd o_facts_f ((o_found * 7) + 0).toNatClampNeg o_joined) ((o_found * 7) + 1).toNatClampNeg y1_8) ((o_found * 7) + 2).toNatClampNeg y2_9) ((o_found * 7) + 3).toNatClampNeg y3_10) ((o_found * 7) + 4).toNatClampNeg y4_11) ((o_found * 7) + 5).toNatClampNeg y5_12) ((o_found * 7) + 6).toNatClampNeg (-1)))), (q_o, .inr (6, [.int o_width, .int o_height, .ref q_o_spotOf, .ref q_o_changes, .ref q_o_joinedX, .ref q_o_joinedY, .int o_joined, .ref q_o_facts, .int o_found, .int o_marked])), (q_o_spotOf, .inl (cI, o_spotOf_n, .inl o_spotOf_f)), (q_o_joinedX, .inl (cI, o_joinedX_n, .inl o_joinedX_f)), (q_o_joinedY, .inl (cI, o_joinedY_n, .inl o_joinedY_f))] := hD
      cases h
      refine W.widen (k := 0) (n := 0) (Nat.le_of_ble_eq_true rfl) (Nat.le_of_ble_eq_true rfl) ?_
      exact RT 205 ls H locs _ d_Spots_describe_205 (Or.inl ⟨rfl, rfl⟩) rfl (hP.sub [2, 3, 0, 4, 5, 1] rfl) (hD.sub [2, 3, 0, 4, 5, 1] (by decide) rfl) hS
    · have h := pu_f hc h
      refine lv_aload_n hx hb d_Spots_describe_194 rfl (lv_at hl 6 rfl) ?_
      refine va_get (D := (dC, dI)) (ci := 6) (v := .int o_joined) (C := R_Spots) (T := F_Spots) (N := 10) hx hb hts i_Spots hown hK hP 2 rfl rfl 6 (by decide) (hts _ k_127) (fun _ h9 => h9) rfl d_Spots_describe_195 ?_
      refine lv_iconst (v := 1) hx hb d_Spots_describe_198 (by decide) ?_
      refine lv_isub hx hb d_Spots_describe_199 ?_
      refine lv_goto (tgt := 204) hx hb d_Spots_describe_200 (by decide) ?_
      obtain ⟨hg, h⟩ := pu_g h
      refine va_iast hx hb hK hP hD hS 1 0 rfl rfl hg d_Spots_describe_204 (fun H locs hP hD hS => ?_)
      have hP : va_P (dC, dI) vwCl [(q_o_changes, .inl (cI, o_changes_n, .inl o_changes_f)), (q_o_facts, .inl (cI, o_facts_n, .inl (upd (upd (upd (upd (upd (upd (upd o_facts_f ((o_found * 7) + 0).toNatClampNeg o_joined) ((o_found * 7) + 1).toNatClampNeg y1_8) ((o_found * 7) + 2).toNatClampNeg y2_9) ((o_found * 7) + 3).toNatClampNeg y3_10) ((o_found * 7) + 4).toNatClampNeg y4_11) ((o_found * 7) + 5).toNatClampNeg y5_12) ((o_found * 7) + 6).toNatClampNeg (o_joined - 1)))), (q_o, .inr (6, [.int o_width, .int o_height, .ref q_o_spotOf, .ref q_o_changes, .ref q_o_joinedX, .ref q_o_joinedY, .int o_joined, .ref q_o_facts, .int o_found, .int o_marked])), (q_o_spotOf, .inl (cI, o_spotOf_n, .inl o_spotOf_f)), (q_o_joinedX, .inl (cI, o_joinedX_n, .inl o_joinedX_f)), (q_o_joinedY, .inl (cI, o_joinedY_n, .inl o_joinedY_f))] H := hP
      have hD : va_D A [(q_o_changes, .inl (cI, o_changes_n, .inl o_changes_f)), (q_o_facts, .inl (cI, o_facts_n, .inl (upd (upd (upd (upd (upd (upd (upd o_facts_f ((o_found * 7) + 0).toNatClampNeg o_joined) ((o_found * 7) + 1).toNatClampNeg y1_8) ((o_found * 7) + 2).toNatClampNeg y2_9) ((o_found * 7) + 3).toNatClampNeg y3_10) ((o_found * 7) + 4).toNatClampNeg y4_11) ((o_found * 7) + 5).toNatClampNeg y5_12) ((o_found * 7) + 6).toNatClampNeg (o_joined - 1)))), (q_o, .inr (6, [.int o_width, .int o_height, .ref q_o_spotOf, .ref q_o_changes, .ref q_o_joinedX, .ref q_o_joinedY, .int o_joined, .ref q_o_facts, .int o_found, .int o_marked])), (q_o_spotOf, .inl (cI, o_spotOf_n, .inl o_spotOf_f)), (q_o_joinedX, .inl (cI, o_joinedX_n, .inl o_joinedX_f)), (q_o_joinedY, .inl (cI, o_joinedY_n, .inl o_joinedY_f))] := hD
      cases h
      refine W.widen (k := 0) (n := 0) (Nat.le_of_ble_eq_true rfl) (Nat.le_of_ble_eq_true rfl) ?_
      exact RT 205 ls H locs _ d_Spots_describe_205 (Or.inl ⟨rfl, rfl⟩) rfl (hP.sub [2, 3, 0, 4, 5, 1] rfl) (hD.sub [2, 3, 0, 4, 5, 1] (by decide) rfl) hS
  have L_1 : ∀ (n : Nat) (x1_2 : Int32) (x2_3 : Int32) (x3_4 : Int32) (x4_5 : Int32) (x5_6 : Int32) (x6_7 : Int32) (H : Heap) (locs : List Loc) (ls : Array Slot), pu_it (p_Spots_describe_L1 o_width o_joined o_changes_n o_changes_f o_joinedX_n o_joinedX_f o_joinedY_n o_joinedY_f) n (x1_2, x2_3, x3_4, x4_5, x5_6, x6_7) = some e_1 → lv_has ls 9 [(6, .int x6_7), (5, .int x5_6), (4, .int x4_5), (3, .int x3_4), (2, .int x2_3), (1, .int x1_2), (0, .ref q_o)] → va_P (dC, dI) vwCl [(q_o, .inr (6, [.int o_width, .int o_height, .ref q_o_spotOf, .ref q_o_changes, .ref q_o_joinedX, .ref q_o_joinedY, .int o_joined, .ref q_o_facts, .int o_found, .int o_marked])), (q_o_spotOf, .inl (cI, o_spotOf_n, .inl o_spotOf_f)), (q_o_changes, .inl (cI, o_changes_n, .inl o_changes_f)), (q_o_joinedX, .inl (cI, o_joinedX_n, .inl o_joinedX_f)), (q_o_joinedY, .inl (cI, o_joinedY_n, .inl o_joinedY_f)), (q_o_facts, .inl (cI, o_facts_n, .inl o_facts_f))] H → va_D A [(q_o, .inr (6, [.int o_width, .int o_height, .ref q_o_spotOf, .ref q_o_changes, .ref q_o_joinedX, .ref q_o_joinedY, .int o_joined, .ref q_o_facts, .int o_found, .int o_marked])), (q_o_spotOf, .inl (cI, o_spotOf_n, .inl o_spotOf_f)), (q_o_changes, .inl (cI, o_changes_n, .inl o_changes_f)), (q_o_joinedX, .inl (cI, o_joinedX_n, .inl o_joinedX_f)), (q_o_joinedY, .inl (cI, o_joinedY_n, .inl o_joinedY_f)), (q_o_facts, .inl (cI, o_facts_n, .inl o_facts_f))] → va_S A s.heap H locs → W p l e rm_Spots_describe s m args below meth c H locs 0 0 Q (F0 m 21 ls []) := by
    intro n
    induction n with
    | zero => intro x1_2 x2_3 x3_4 x4_5 x5_6 x6_7 H locs ls hn; exact (pu_it_0 hn).elim
    | succ n ih =>
      intro x1_2 x2_3 x3_4 x4_5 x5_6 x6_7 H locs ls hn hl hP hD hS
      obtain ⟨r_1, h, hr_1⟩ := pu_it_succ hn
      unfold p_Spots_describe_L1 at h
      try dsimp only at h
      refine lv_iload hx hb d_Spots_describe_21 (lv_at hl 0 rfl) ?_
      refine lv_aload_n hx hb d_Spots_describe_23 rfl (lv_at hl 6 rfl) ?_
      refine va_get (D := (dC, dI)) (ci := 6) (v := .int o_joined) (C := R_Spots) (T := F_Spots) (N := 10) hx hb hts i_Spots hown hK hP 0 rfl rfl 6 (by decide) (hts _ k_127) (fun _ h9 => h9) rfl d_Spots_describe_24 ?_
      refine lv_icmp_ge (tgt := 104) hx hb d_Spots_describe_27 (by decide) (fun hc => ?_) (fun hc => ?_)
      · have h := pu_t hc h
        cases h
        exact K_1 x1_2 x2_3 x3_4 x4_5 x5_6 x6_7 H locs ls hr_1.symm (lv_sub hl [0, 1, 2, 3, 4, 5, 6] rfl) (hP.sub [0, 1, 2, 3, 4, 5] rfl) (hD.sub [0, 1, 2, 3, 4, 5] (by decide) rfl) hS
      · have h := pu_f hc h
        refine lv_aload_n hx hb d_Spots_describe_30 rfl (lv_at hl 6 rfl) ?_
        refine va_get (D := (dC, dI)) (ci := 6) (v := .ref q_o_joinedX) (C := R_Spots) (T := F_Spots) (N := 10) hx hb hts i_Spots hown hK hP 0 rfl rfl 4 (by decide) (hts _ k_125) (fun _ h9 => h9) rfl d_Spots_describe_31 ?_
        refine lv_iload hx hb d_Spots_describe_34 (lv_at hl 0 rfl) ?_
        obtain ⟨hg, h⟩ := pu_g h
        refine va_iald hx hb hK hP 3 0 rfl rfl hg d_Spots_describe_36 ?_
        refine lv_istore (lv' := [(7, .int (o_joinedX_f x6_7.toNatClampNeg)), (6, .int x6_7), (5, .int x5_6), (4, .int x4_5), (3, .int x3_4), (2, .int x2_3), (1, .int x1_2), (0, .ref q_o)]) hx hb d_Spots_describe_37 hl (by decide) rfl (fun ls hl => ?_)
        refine lv_aload_n hx hb d_Spots_describe_39 rfl (lv_at hl 7 rfl) ?_
        refine va_get (D := (dC, dI)) (ci := 6) (v := .ref q_o_joinedY) (C := R_Spots) (T := F_Spots) (N := 10) hx hb hts i_Spots hown hK hP 0 rfl rfl 5 (by decide) (hts _ k_126) (fun _ h9 => h9) rfl d_Spots_describe_40 ?_
        refine lv_iload hx hb d_Spots_describe_43 (lv_at hl 1 rfl) ?_
        obtain ⟨hg, h⟩ := pu_g h
        refine va_iald hx hb hK hP 4 0 rfl rfl hg d_Spots_describe_45 ?_
        refine lv_istore (lv' := [(8, .int (o_joinedY_f x6_7.toNatClampNeg)), (7, .int (o_joinedX_f x6_7.toNatClampNeg)), (6, .int x6_7), (5, .int x5_6), (4, .int x4_5), (3, .int x3_4), (2, .int x2_3), (1, .int x1_2), (0, .ref q_o)]) hx hb d_Spots_describe_46 hl (by decide) rfl (fun ls hl => ?_)
        refine lv_iload_n hx hb d_Spots_describe_48 rfl (lv_at hl 7 rfl) ?_
        refine lv_aload_n hx hb d_Spots_describe_49 rfl (lv_at hl 8 rfl) ?_
        refine va_get (D := (dC, dI)) (ci := 6) (v := .ref q_o_changes) (C := R_Spots) (T := F_Spots) (N := 10) hx hb hts i_Spots hown hK hP 0 rfl rfl 3 (by decide) (hts _ k_124) (fun _ h9 => h9) rfl d_Spots_describe_50 ?_
        refine lv_iload hx hb d_Spots_describe_53 (lv_at hl 0 rfl) ?_
        refine lv_aload_n hx hb d_Spots_describe_55 rfl (lv_at hl 8 rfl) ?_
        refine va_get (D := (dC, dI)) (ci := 6) (v := .int o_width) (C := R_Spots) (T := F_Spots) (N := 10) hx hb hts i_Spots hown hK hP 0 rfl rfl 0 (by decide) (hts _ k_121) (fun _ h9 => h9) rfl d_Spots_describe_56 ?_
        refine lv_imul hx hb d_Spots_describe_59 ?_
        refine lv_iload hx hb d_Spots_describe_60 (lv_at hl 1 rfl) ?_
        refine lv_iadd hx hb d_Spots_describe_62 ?_
        obtain ⟨hg, h⟩ := pu_g h
        refine va_iald hx hb hK hP 2 0 rfl rfl hg d_Spots_describe_63 ?_
        refine lv_iadd hx hb d_Spots_describe_64 ?_
        refine lv_istore_n (lv' := [(1, .int (x1_2 + (o_changes_f (((o_joinedY_f x6_7.toNatClampNeg) * o_width) + (o_joinedX_f x6_7.toNatClampNeg)).toNatClampNeg))), (8, .int (o_joinedY_f x6_7.toNatClampNeg)), (7, .int (o_joinedX_f x6_7.toNatClampNeg)), (6, .int x6_7), (5, .int x5_6), (4, .int x4_5), (3, .int x3_4), (2, .int x2_3), (0, .ref q_o)]) hx hb d_Spots_describe_65 rfl hl (by decide) rfl (fun ls hl => ?_)
        refine lv_iload_n hx hb d_Spots_describe_66 rfl (lv_at hl 7 rfl) ?_
        refine lv_iload hx hb d_Spots_describe_67 (lv_at hl 2 rfl) ?_
        refine va_mmin hx hb (hml.trans hl.1.symm) hown (hts _ k_284) (hts _ k_28) (hts _ k_2) (hts _ k_29) (Nat.le_of_ble_eq_true rfl) (Nat.le_of_ble_eq_true rfl) (Nat.le_of_ble_eq_true rfl) (Nat.le_of_ble_eq_true rfl) d_Spots_describe_69 ?_
        refine lv_istore_n (lv' := [(2, .int (if (o_joinedX_f x6_7.toNatClampNeg) < x2_3 then (o_joinedX_f x6_7.toNatClampNeg) else x2_3)), (1, .int (x1_2 + (o_changes_f (((o_joinedY_f x6_7.toNatClampNeg) * o_width) + (o_joinedX_f x6_7.toNatClampNeg)).toNatClampNeg))), (8, .int (o_joinedY_f x6_7.toNatClampNeg)), (7, .int (o_joinedX_f x6_7.toNatClampNeg)), (6, .int x6_7), (5, .int x5_6), (4, .int x4_5), (3, .int x3_4), (0, .ref q_o)]) hx hb d_Spots_describe_72 rfl hl (by decide) rfl (fun ls hl => ?_)
        refine lv_iload_n hx hb d_Spots_describe_73 rfl (lv_at hl 7 rfl) ?_
        refine lv_iload hx hb d_Spots_describe_74 (lv_at hl 2 rfl) ?_
        refine va_mmin hx hb (hml.trans hl.1.symm) hown (hts _ k_284) (hts _ k_28) (hts _ k_2) (hts _ k_29) (Nat.le_of_ble_eq_true rfl) (Nat.le_of_ble_eq_true rfl) (Nat.le_of_ble_eq_true rfl) (Nat.le_of_ble_eq_true rfl) d_Spots_describe_76 ?_
        refine lv_istore_n (lv' := [(3, .int (if (o_joinedY_f x6_7.toNatClampNeg) < x3_4 then (o_joinedY_f x6_7.toNatClampNeg) else x3_4)), (2, .int (if (o_joinedX_f x6_7.toNatClampNeg) < x2_3 then (o_joinedX_f x6_7.toNatClampNeg) else x2_3)), (1, .int (x1_2 + (o_changes_f (((o_joinedY_f x6_7.toNatClampNeg) * o_width) + (o_joinedX_f x6_7.toNatClampNeg)).toNatClampNeg))), (8, .int (o_joinedY_f x6_7.toNatClampNeg)), (7, .int (o_joinedX_f x6_7.toNatClampNeg)), (6, .int x6_7), (5, .int x5_6), (4, .int x4_5), (0, .ref q_o)]) hx hb d_Spots_describe_79 rfl hl (by decide) rfl (fun ls hl => ?_)
        refine lv_iload hx hb d_Spots_describe_80 (lv_at hl 7 rfl) ?_
        refine lv_iload hx hb d_Spots_describe_82 (lv_at hl 4 rfl) ?_
        refine va_mmax hx hb (hml.trans hl.1.symm) hown (hts _ k_285) (hts _ k_31) (hts _ k_2) (hts _ k_32) (Nat.le_of_ble_eq_true rfl) (Nat.le_of_ble_eq_true rfl) (Nat.le_of_ble_eq_true rfl) (Nat.le_of_ble_eq_true rfl) d_Spots_describe_84 ?_
        refine lv_istore (lv' := [(4, .int (if x4_5 < (o_joinedX_f x6_7.toNatClampNeg) then (o_joinedX_f x6_7.toNatClampNeg) else x4_5)), (3, .int (if (o_joinedY_f x6_7.toNatClampNeg) < x3_4 then (o_joinedY_f x6_7.toNatClampNeg) else x3_4)), (2, .int (if (o_joinedX_f x6_7.toNatClampNeg) < x2_3 then (o_joinedX_f x6_7.toNatClampNeg) else x2_3)), (1, .int (x1_2 + (o_changes_f (((o_joinedY_f x6_7.toNatClampNeg) * o_width) + (o_joinedX_f x6_7.toNatClampNeg)).toNatClampNeg))), (8, .int (o_joinedY_f x6_7.toNatClampNeg)), (7, .int (o_joinedX_f x6_7.toNatClampNeg)), (6, .int x6_7), (5, .int x5_6), (0, .ref q_o)]) hx hb d_Spots_describe_87 hl (by decide) rfl (fun ls hl => ?_)
        refine lv_iload hx hb d_Spots_describe_89 (lv_at hl 7 rfl) ?_
        refine lv_iload hx hb d_Spots_describe_91 (lv_at hl 4 rfl) ?_
        refine va_mmax hx hb (hml.trans hl.1.symm) hown (hts _ k_285) (hts _ k_31) (hts _ k_2) (hts _ k_32) (Nat.le_of_ble_eq_true rfl) (Nat.le_of_ble_eq_true rfl) (Nat.le_of_ble_eq_true rfl) (Nat.le_of_ble_eq_true rfl) d_Spots_describe_93 ?_
        refine lv_istore (lv' := [(5, .int (if x5_6 < (o_joinedY_f x6_7.toNatClampNeg) then (o_joinedY_f x6_7.toNatClampNeg) else x5_6)), (4, .int (if x4_5 < (o_joinedX_f x6_7.toNatClampNeg) then (o_joinedX_f x6_7.toNatClampNeg) else x4_5)), (3, .int (if (o_joinedY_f x6_7.toNatClampNeg) < x3_4 then (o_joinedY_f x6_7.toNatClampNeg) else x3_4)), (2, .int (if (o_joinedX_f x6_7.toNatClampNeg) < x2_3 then (o_joinedX_f x6_7.toNatClampNeg) else x2_3)), (1, .int (x1_2 + (o_changes_f (((o_joinedY_f x6_7.toNatClampNeg) * o_width) + (o_joinedX_f x6_7.toNatClampNeg)).toNatClampNeg))), (8, .int (o_joinedY_f x6_7.toNatClampNeg)), (7, .int (o_joinedX_f x6_7.toNatClampNeg)), (6, .int x6_7), (0, .ref q_o)]) hx hb d_Spots_describe_96 hl (by decide) rfl (fun ls hl => ?_)
        refine lv_iinc (v := (x6_7 + 1)) (lv' := [(6, .int (x6_7 + 1)), (5, .int (if x5_6 < (o_joinedY_f x6_7.toNatClampNeg) then (o_joinedY_f x6_7.toNatClampNeg) else x5_6)), (4, .int (if x4_5 < (o_joinedX_f x6_7.toNatClampNeg) then (o_joinedX_f x6_7.toNatClampNeg) else x4_5)), (3, .int (if (o_joinedY_f x6_7.toNatClampNeg) < x3_4 then (o_joinedY_f x6_7.toNatClampNeg) else x3_4)), (2, .int (if (o_joinedX_f x6_7.toNatClampNeg) < x2_3 then (o_joinedX_f x6_7.toNatClampNeg) else x2_3)), (1, .int (x1_2 + (o_changes_f (((o_joinedY_f x6_7.toNatClampNeg) * o_width) + (o_joinedX_f x6_7.toNatClampNeg)).toNatClampNeg))), (8, .int (o_joinedY_f x6_7.toNatClampNeg)), (7, .int (o_joinedX_f x6_7.toNatClampNeg)), (0, .ref q_o)]) hx hb d_Spots_describe_98 hl (k := 7) rfl rfl (by decide) rfl (fun ls hl => ?_)
        refine lv_goto (tgt := 21) hx hb d_Spots_describe_101 (by decide) ?_
        cases h
        exact ih (x1_2 + (o_changes_f (((o_joinedY_f x6_7.toNatClampNeg) * o_width) + (o_joinedX_f x6_7.toNatClampNeg)).toNatClampNeg)) (if (o_joinedX_f x6_7.toNatClampNeg) < x2_3 then (o_joinedX_f x6_7.toNatClampNeg) else x2_3) (if (o_joinedY_f x6_7.toNatClampNeg) < x3_4 then (o_joinedY_f x6_7.toNatClampNeg) else x3_4) (if x4_5 < (o_joinedX_f x6_7.toNatClampNeg) then (o_joinedX_f x6_7.toNatClampNeg) else x4_5) (if x5_6 < (o_joinedY_f x6_7.toNatClampNeg) then (o_joinedY_f x6_7.toNatClampNeg) else x5_6) (x6_7 + 1) H locs ls hr_1 (lv_sub hl [0, 1, 2, 3, 4, 5, 8] rfl) (hP.sub [0, 1, 2, 3, 4, 5] rfl) (hD.sub [0, 1, 2, 3, 4, 5] (by decide) rfl) hS
  exact L_1 n_1 0 o_width o_height 0 0 0 H locs ls hn_1 hl hP hD hS

noncomputable def p_Spots_join_L9 (o_width : Int32) (o_height : Int32) (o_marked : Int32) (o_spotOf_n : Nat) (o_changes_n : Nat) (o_changes_f : Nat → Int32) (o_joinedX_n : Nat) (o_joinedY_n : Nat) (o_facts_n : Nat) (x1_2 : Int32) : (Int32 × Int32 × Int32 × (Nat → Int32) × (Nat → Int32) × (Nat → Int32) × (Nat → Int32)) → Option ((Int32 × Int32 × Int32 × (Nat → Int32) × (Nat → Int32) × (Nat → Int32) × (Nat → Int32)) ⊕ (Int32 × Int32 × Int32 × (Nat → Int32) × (Nat → Int32) × (Nat → Int32) × (Nat → Int32))) := fun ((x2_10, o_joined_11, o_found_12, o_spotOf_f_13, o_joinedX_f_14, o_joinedY_f_15, o_facts_f_16) : Int32 × Int32 × Int32 × (Nat → Int32) × (Nat → Int32) × (Nat → Int32) × (Nat → Int32)) =>
  (if o_width ≤ x2_10 then some (.inr (x2_10, o_joined_11, o_found_12, o_spotOf_f_13, o_joinedX_f_14, o_joinedY_f_15, o_facts_f_16)) else (p_Spots_spotAt x2_10 x1_2 o_width o_height o_joined_11 o_found_12 o_marked o_spotOf_n o_spotOf_f_13).bind (fun (v17 : Int32) => (if v17 = (-2) then (if (Int32.ofNat o_facts_n) < ((o_found_12 + 1) * 7) then some (.inl ((x2_10 + 1), o_joined_11, o_found_12, o_spotOf_f_13, o_joinedX_f_14, o_joinedY_f_15, o_facts_f_16)) else (p_Spots_joinFrom x2_10 x1_2 o_width o_height o_joined_11 o_found_12 o_marked o_spotOf_n o_spotOf_f_13 o_joinedX_n o_joinedX_f_14 o_joinedY_n o_joinedY_f_15).bind (fun ((u18_0, u18_1, u18_2, u18_3) : Int32 × (Nat → Int32) × (Nat → Int32) × (Nat → Int32)) => (p_Spots_describe o_width o_height u18_0 o_found_12 o_marked o_spotOf_n u18_1 o_changes_n o_changes_f o_joinedX_n u18_2 o_joinedY_n u18_3 o_facts_n o_facts_f_16).bind (fun (u19_0 : Nat → Int32) => some (.inl ((x2_10 + 1), u18_0, (o_found_12 + 1), u18_1, u18_2, u18_3, u19_0))))) else some (.inl ((x2_10 + 1), o_joined_11, o_found_12, o_spotOf_f_13, o_joinedX_f_14, o_joinedY_f_15, o_facts_f_16)))))
noncomputable def p_Spots_join_L1 (o_width : Int32) (o_height : Int32) (o_marked : Int32) (o_spotOf_n : Nat) (o_changes_n : Nat) (o_changes_f : Nat → Int32) (o_joinedX_n : Nat) (o_joinedY_n : Nat) (o_facts_n : Nat) : (Int32 × Int32 × Int32 × (Nat → Int32) × (Nat → Int32) × (Nat → Int32) × (Nat → Int32)) → Option ((Int32 × Int32 × Int32 × (Nat → Int32) × (Nat → Int32) × (Nat → Int32) × (Nat → Int32)) ⊕ (Int32 × Int32 × Int32 × (Nat → Int32) × (Nat → Int32) × (Nat → Int32) × (Nat → Int32))) := fun ((x1_2, o_joined_3, o_found_4, o_spotOf_f_5, o_joinedX_f_6, o_joinedY_f_7, o_facts_f_8) : Int32 × Int32 × Int32 × (Nat → Int32) × (Nat → Int32) × (Nat → Int32) × (Nat → Int32)) =>
  (if o_height ≤ x1_2 then some (.inr (x1_2, o_joined_3, o_found_4, o_spotOf_f_5, o_joinedX_f_6, o_joinedY_f_7, o_facts_f_8)) else (pu_loop (p_Spots_join_L9 o_width o_height o_marked o_spotOf_n o_changes_n o_changes_f o_joinedX_n o_joinedY_n o_facts_n x1_2) (0, o_joined_3, o_found_4, o_spotOf_f_5, o_joinedX_f_6, o_joinedY_f_7, o_facts_f_8)).bind (fun ((y2_20, z21, z22, z23, z24, z25, z26) : Int32 × Int32 × Int32 × (Nat → Int32) × (Nat → Int32) × (Nat → Int32) × (Nat → Int32)) => some (.inl ((x1_2 + 1), z21, z22, z23, z24, z25, z26))))
noncomputable def p_Spots_join (o_width : Int32) (o_height : Int32) (o_joined : Int32) (o_found : Int32) (o_marked : Int32) (o_spotOf_n : Nat) (o_spotOf_f : Nat → Int32) (o_changes_n : Nat) (o_changes_f : Nat → Int32) (o_joinedX_n : Nat) (o_joinedX_f : Nat → Int32) (o_joinedY_n : Nat) (o_joinedY_f : Nat → Int32) (o_facts_n : Nat) (o_facts_f : Nat → Int32) : Option (Int32 × Int32 × (Nat → Int32) × (Nat → Int32) × (Nat → Int32) × (Nat → Int32)) :=
  (pu_loop (p_Spots_join_L1 o_width o_height o_marked o_spotOf_n o_changes_n o_changes_f o_joinedX_n o_joinedY_n o_facts_n) (0, o_joined, o_found, o_spotOf_f, o_joinedX_f, o_joinedY_f, o_facts_f)).bind (fun ((y1_27, z28, z29, z30, z31, z32, z33) : Int32 × Int32 × Int32 × (Nat → Int32) × (Nat → Int32) × (Nat → Int32) × (Nat → Int32)) => some (z28, z29, z30, z31, z32, z33))
set_option maxHeartbeats 4000000 in
set_option maxRecDepth 100000 in
theorem c_Spots_join (l : Launch) (dC : Nat → ClassId) (dI : Nat → Nat → Nat) (cI cJ cZ : ClassId) (q_o q_o_spotOf q_o_changes q_o_joinedX q_o_joinedY q_o_facts : Nat) (o_width : Int32) (o_height : Int32) (o_joined : Int32) (o_found : Int32) (o_marked : Int32) (o_spotOf_n : Nat) (o_spotOf_f : Nat → Int32) (o_changes_n : Nat) (o_changes_f : Nat → Int32) (o_joinedX_n : Nat) (o_joinedX_f : Nat → Int32) (o_joinedY_n : Nat) (o_joinedY_f : Nat → Int32) (o_facts_n : Nat) (o_facts_f : Nat → Int32) (r0 : Int32) (r1 : Int32) (r2 : Nat → Int32) (r3 : Nat → Int32) (r4 : Nat → Int32) (r5 : Nat → Int32) (h : p_Spots_join o_width o_height o_joined o_found o_marked o_spotOf_n o_spotOf_f o_changes_n o_changes_f o_joinedX_n o_joinedX_f o_joinedY_n o_joinedY_f o_facts_n o_facts_f = some (r0, r1, r2, r3, r4, r5)) : ct l y_Spots_join w_Spots_join rm_Spots_join (dC, dI) [(cI, .int), (cJ, .long), (cZ, .boolean)] [.ref q_o] [(q_o, .inr (6, [.int o_width, .int o_height, .ref q_o_spotOf, .ref q_o_changes, .ref q_o_joinedX, .ref q_o_joinedY, .int o_joined, .ref q_o_facts, .int o_found, .int o_marked])), (q_o_spotOf, .inl (cI, o_spotOf_n, .inl o_spotOf_f)), (q_o_changes, .inl (cI, o_changes_n, .inl o_changes_f)), (q_o_joinedX, .inl (cI, o_joinedX_n, .inl o_joinedX_f)), (q_o_joinedY, .inl (cI, o_joinedY_n, .inl o_joinedY_f)), (q_o_facts, .inl (cI, o_facts_n, .inl o_facts_f))] (fun w => w = [(q_o, .inr (6, [.int o_width, .int o_height, .ref q_o_spotOf, .ref q_o_changes, .ref q_o_joinedX, .ref q_o_joinedY, .int r0, .ref q_o_facts, .int r1, .int o_marked])), (q_o_spotOf, .inl (cI, o_spotOf_n, .inl r2)), (q_o_changes, .inl (cI, o_changes_n, .inl o_changes_f)), (q_o_joinedX, .inl (cI, o_joinedX_n, .inl r3)), (q_o_joinedY, .inl (cI, o_joinedY_n, .inl r4)), (q_o_facts, .inl (cI, o_facts_n, .inl r5))]) none := by
  refine ct_of (cc := b_Spots_join) (maxL := 3) (ret := none) (lv := [(0, .ref q_o)]) (by decide) rfl rfl rfl ?_
  intro p e s m args below meth c A Q H locs hx hb hml hown hts hin hA hK hN hP hD hS RT ls hl
  unfold p_Spots_join at h
  refine lv_iconst (v := 0) hx hb d_Spots_join_0 (by decide) ?_
  refine lv_istore_n (lv' := [(1, .int 0), (0, .ref q_o)]) hx hb d_Spots_join_1 rfl hl (by decide) rfl (fun ls hl => ?_)
  obtain ⟨e_1, he_1, hx_1⟩ := pu_bd h
  obtain ⟨n_1, hn_1⟩ := pu_loop_it he_1
  have K_1 : ∀ (y1_27 : Int32) (z28 : Int32) (z29 : Int32) (z30 : Nat → Int32) (z31 : Nat → Int32) (z32 : Nat → Int32) (z33 : Nat → Int32) (H : Heap) (locs : List Loc) (ls : Array Slot), e_1 = (y1_27, z28, z29, z30, z31, z32, z33) → lv_has ls 3 [(1, .int y1_27), (0, .ref q_o)] → va_P (dC, dI) vwCl [(q_o, .inr (6, [.int o_width, .int o_height, .ref q_o_spotOf, .ref q_o_changes, .ref q_o_joinedX, .ref q_o_joinedY, .int z28, .ref q_o_facts, .int z29, .int o_marked])), (q_o_spotOf, .inl (cI, o_spotOf_n, .inl z30)), (q_o_changes, .inl (cI, o_changes_n, .inl o_changes_f)), (q_o_joinedX, .inl (cI, o_joinedX_n, .inl z31)), (q_o_joinedY, .inl (cI, o_joinedY_n, .inl z32)), (q_o_facts, .inl (cI, o_facts_n, .inl z33))] H → va_D A [(q_o, .inr (6, [.int o_width, .int o_height, .ref q_o_spotOf, .ref q_o_changes, .ref q_o_joinedX, .ref q_o_joinedY, .int z28, .ref q_o_facts, .int z29, .int o_marked])), (q_o_spotOf, .inl (cI, o_spotOf_n, .inl z30)), (q_o_changes, .inl (cI, o_changes_n, .inl o_changes_f)), (q_o_joinedX, .inl (cI, o_joinedX_n, .inl z31)), (q_o_joinedY, .inl (cI, o_joinedY_n, .inl z32)), (q_o_facts, .inl (cI, o_facts_n, .inl z33))] → va_S A s.heap H locs → W p l e rm_Spots_join s m args below meth c H locs 0 0 Q (F0 m 80 ls []) := by
    intro y1_27 z28 z29 z30 z31 z32 z33 H locs ls he hl hP hD hS
    have h := hx_1
    rw [he] at h
    try dsimp only at h
    cases h
    refine W.widen (k := 0) (n := 0) (Nat.le_of_ble_eq_true rfl) (Nat.le_of_ble_eq_true rfl) ?_
    exact RT 80 ls H locs _ d_Spots_join_80 (Or.inl ⟨rfl, rfl⟩) rfl (hP.sub [0, 1, 2, 3, 4, 5] rfl) (hD.sub [0, 1, 2, 3, 4, 5] (by decide) rfl) hS
  have L_1 : ∀ (n : Nat) (x1_2 : Int32) (o_joined_3 : Int32) (o_found_4 : Int32) (o_spotOf_f_5 : Nat → Int32) (o_joinedX_f_6 : Nat → Int32) (o_joinedY_f_7 : Nat → Int32) (o_facts_f_8 : Nat → Int32) (H : Heap) (locs : List Loc) (ls : Array Slot), pu_it (p_Spots_join_L1 o_width o_height o_marked o_spotOf_n o_changes_n o_changes_f o_joinedX_n o_joinedY_n o_facts_n) n (x1_2, o_joined_3, o_found_4, o_spotOf_f_5, o_joinedX_f_6, o_joinedY_f_7, o_facts_f_8) = some e_1 → lv_has ls 3 [(1, .int x1_2), (0, .ref q_o)] → va_P (dC, dI) vwCl [(q_o, .inr (6, [.int o_width, .int o_height, .ref q_o_spotOf, .ref q_o_changes, .ref q_o_joinedX, .ref q_o_joinedY, .int o_joined_3, .ref q_o_facts, .int o_found_4, .int o_marked])), (q_o_spotOf, .inl (cI, o_spotOf_n, .inl o_spotOf_f_5)), (q_o_changes, .inl (cI, o_changes_n, .inl o_changes_f)), (q_o_joinedX, .inl (cI, o_joinedX_n, .inl o_joinedX_f_6)), (q_o_joinedY, .inl (cI, o_joinedY_n, .inl o_joinedY_f_7)), (q_o_facts, .inl (cI, o_facts_n, .inl o_facts_f_8))] H → va_D A [(q_o, .inr (6, [.int o_width, .int o_height, .ref q_o_spotOf, .ref q_o_changes, .ref q_o_joinedX, .ref q_o_joinedY, .int o_joined_3, .ref q_o_facts, .int o_found_4, .int o_marked])), (q_o_spotOf, .inl (cI, o_spotOf_n, .inl o_spotOf_f_5)), (q_o_changes, .inl (cI, o_changes_n, .inl o_changes_f)), (q_o_joinedX, .inl (cI, o_joinedX_n, .inl o_joinedX_f_6)), (q_o_joinedY, .inl (cI, o_joinedY_n, .inl o_joinedY_f_7)), (q_o_facts, .inl (cI, o_facts_n, .inl o_facts_f_8))] → va_S A s.heap H locs → W p l e rm_Spots_join s m args below meth c H locs 0 0 Q (F0 m 2 ls []) := by
    intro n
    induction n with
    | zero => intro x1_2 o_joined_3 o_found_4 o_spotOf_f_5 o_joinedX_f_6 o_joinedY_f_7 o_facts_f_8 H locs ls hn; exact (pu_it_0 hn).elim
    | succ n ih =>
      intro x1_2 o_joined_3 o_found_4 o_spotOf_f_5 o_joinedX_f_6 o_joinedY_f_7 o_facts_f_8 H locs ls hn hl hP hD hS
      obtain ⟨r_1, h, hr_1⟩ := pu_it_succ hn
      unfold p_Spots_join_L1 at h
      try dsimp only at h
      refine lv_iload_n hx hb d_Spots_join_2 rfl (lv_at hl 0 rfl) ?_
      refine lv_aload_n hx hb d_Spots_join_3 rfl (lv_at hl 1 rfl) ?_
      refine va_get (D := (dC, dI)) (ci := 6) (v := .int o_height) (C := R_Spots) (T := F_Spots) (N := 10) hx hb hts i_Spots hown hK hP 0 rfl rfl 1 (by decide) (hts _ k_122) (fun _ h9 => h9) rfl d_Spots_join_4 ?_
      refine lv_icmp_ge (tgt := 80) hx hb d_Spots_join_7 (by decide) (fun hc => ?_) (fun hc => ?_)
      · have h := pu_t hc h
        cases h
        exact K_1 x1_2 o_joined_3 o_found_4 o_spotOf_f_5 o_joinedX_f_6 o_joinedY_f_7 o_facts_f_8 H locs ls hr_1.symm (lv_sub hl [0, 1] rfl) (hP.sub [0, 1, 2, 3, 4, 5] rfl) (hD.sub [0, 1, 2, 3, 4, 5] (by decide) rfl) hS
      · have h := pu_f hc h
        refine lv_iconst (v := 0) hx hb d_Spots_join_10 (by decide) ?_
        refine lv_istore_n (lv' := [(2, .int 0), (1, .int x1_2), (0, .ref q_o)]) hx hb d_Spots_join_11 rfl hl (by decide) rfl (fun ls hl => ?_)
        obtain ⟨e_9, he_9, hx_9⟩ := pu_bd h
        obtain ⟨n_9, hn_9⟩ := pu_loop_it he_9
        have K_9 : ∀ (y2_20 : Int32) (z21 : Int32) (z22 : Int32) (z23 : Nat → Int32) (z24 : Nat → Int32) (z25 : Nat → Int32) (z26 : Nat → Int32) (H : Heap) (locs : List Loc) (ls : Array Slot), e_9 = (y2_20, z21, z22, z23, z24, z25, z26) → lv_has ls 3 [(2, .int y2_20), (1, .int x1_2), (0, .ref q_o)] → va_P (dC, dI) vwCl [(q_o, .inr (6, [.int o_width, .int o_height, .ref q_o_spotOf, .ref q_o_changes, .ref q_o_joinedX, .ref q_o_joinedY, .int z21, .ref q_o_facts, .int z22, .int o_marked])), (q_o_spotOf, .inl (cI, o_spotOf_n, .inl z23)), (q_o_changes, .inl (cI, o_changes_n, .inl o_changes_f)), (q_o_joinedX, .inl (cI, o_joinedX_n, .inl z24)), (q_o_joinedY, .inl (cI, o_joinedY_n, .inl z25)), (q_o_facts, .inl (cI, o_facts_n, .inl z26))] H → va_D A [(q_o, .inr (6, [.int o_width, .int o_height, .ref q_o_spotOf, .ref q_o_changes, .ref q_o_joinedX, .ref q_o_joinedY, .int z21, .ref q_o_facts, .int z22, .int o_marked])), (q_o_spotOf, .inl (cI, o_spotOf_n, .inl z23)), (q_o_changes, .inl (cI, o_changes_n, .inl o_changes_f)), (q_o_joinedX, .inl (cI, o_joinedX_n, .inl z24)), (q_o_joinedY, .inl (cI, o_joinedY_n, .inl z25)), (q_o_facts, .inl (cI, o_facts_n, .inl z26))] → va_S A s.heap H locs → W p l e rm_Spots_join s m args below meth c H locs 0 0 Q (F0 m 74 ls []) := by
          intro y2_20 z21 z22 z23 z24 z25 z26 H locs ls he hl hP hD hS
          have h := hx_9
          rw [he] at h
          try dsimp only at h
          refine lv_iinc (v := (x1_2 + 1)) (lv' := [(1, .int (x1_2 + 1)), (2, .int y2_20), (0, .ref q_o)]) hx hb d_Spots_join_74 hl (k := 1) rfl rfl (by decide) rfl (fun ls hl => ?_)
          refine lv_goto (tgt := 2) hx hb d_Spots_join_77 (by decide) ?_
          cases h
          exact ih (x1_2 + 1) z21 z22 z23 z24 z25 z26 H locs ls hr_1 (lv_sub hl [0, 2] rfl) (hP.sub [0, 1, 2, 3, 4, 5] rfl) (hD.sub [0, 1, 2, 3, 4, 5] (by decide) rfl) hS
        have L_9 : ∀ (n : Nat) (x2_10 : Int32) (o_joined_11 : Int32) (o_found_12 : Int32) (o_spotOf_f_13 : Nat → Int32) (o_joinedX_f_14 : Nat → Int32) (o_joinedY_f_15 : Nat → Int32) (o_facts_f_16 : Nat → Int32) (H : Heap) (locs : List Loc) (ls : Array Slot), pu_it (p_Spots_join_L9 o_width o_height o_marked o_spotOf_n o_changes_n o_changes_f o_joinedX_n o_joinedY_n o_facts_n x1_2) n (x2_10, o_joined_11, o_found_12, o_spotOf_f_13, o_joinedX_f_14, o_joinedY_f_15, o_facts_f_16) = some e_9 → lv_has ls 3 [(2, .int x2_10), (1, .int x1_2), (0, .ref q_o)] → va_P (dC, dI) vwCl [(q_o, .inr (6, [.int o_width, .int o_height, .ref q_o_spotOf, .ref q_o_changes, .ref q_o_joinedX, .ref q_o_joinedY, .int o_joined_11, .ref q_o_facts, .int o_found_12, .int o_marked])), (q_o_spotOf, .inl (cI, o_spotOf_n, .inl o_spotOf_f_13)), (q_o_changes, .inl (cI, o_changes_n, .inl o_changes_f)), (q_o_joinedX, .inl (cI, o_joinedX_n, .inl o_joinedX_f_14)), (q_o_joinedY, .inl (cI, o_joinedY_n, .inl o_joinedY_f_15)), (q_o_facts, .inl (cI, o_facts_n, .inl o_facts_f_16))] H → va_D A [(q_o, .inr (6, [.int o_width, .int o_height, .ref q_o_spotOf, .ref q_o_changes, .ref q_o_joinedX, .ref q_o_joinedY, .int o_joined_11, .ref q_o_facts, .int o_found_12, .int o_marked])), (q_o_spotOf, .inl (cI, o_spotOf_n, .inl o_spotOf_f_13)), (q_o_changes, .inl (cI, o_changes_n, .inl o_changes_f)), (q_o_joinedX, .inl (cI, o_joinedX_n, .inl o_joinedX_f_14)), (q_o_joinedY, .inl (cI, o_joinedY_n, .inl o_joinedY_f_15)), (q_o_facts, .inl (cI, o_facts_n, .inl o_facts_f_16))] → va_S A s.heap H locs → W p l e rm_Spots_join s m args below meth c H locs 0 0 Q (F0 m 12 ls []) := by
          intro n
          induction n with
          | zero => intro x2_10 o_joined_11 o_found_12 o_spotOf_f_13 o_joinedX_f_14 o_joinedY_f_15 o_facts_f_16 H locs ls hn; exact (pu_it_0 hn).elim
          | succ n ih =>
            intro x2_10 o_joined_11 o_found_12 o_spotOf_f_13 o_joinedX_f_14 o_joinedY_f_15 o_facts_f_16 H locs ls hn hl hP hD hS
            obtain ⟨r_9, h, hr_9⟩ := pu_it_succ hn
            unfold p_Spots_join_L9 at h
            try dsimp only at h
            refine lv_iload_n hx hb d_Spots_join_12 rfl (lv_at hl 0 rfl) ?_
            refine lv_aload_n hx hb d_Spots_join_13 rfl (lv_at hl 2 rfl) ?_
            refine va_get (D := (dC, dI)) (ci := 6) (v := .int o_width) (C := R_Spots) (T := F_Spots) (N := 10) hx hb hts i_Spots hown hK hP 0 rfl rfl 0 (by decide) (hts _ k_121) (fun _ h9 => h9) rfl d_Spots_join_14 ?_
            refine lv_icmp_ge (tgt := 74) hx hb d_Spots_join_17 (by decide) (fun hc => ?_) (fun hc => ?_)
            · have h := pu_t hc h
              cases h
              exact K_9 x2_10 o_joined_11 o_found_12 o_spotOf_f_13 o_joinedX_f_14 o_joinedY_f_15 o_facts_f_16 H locs ls hr_9.symm (lv_sub hl [0, 1, 2] rfl) (hP.sub [0, 1, 2, 3, 4, 5] rfl) (hD.sub [0, 1, 2, 3, 4, 5] (by decide) rfl) hS
            · have h := pu_f hc h
              refine lv_aload_n hx hb d_Spots_join_20 rfl (lv_at hl 2 rfl) ?_
              refine lv_iload_n hx hb d_Spots_join_21 rfl (lv_at hl 0 rfl) ?_
              refine lv_iload_n hx hb d_Spots_join_22 rfl (lv_at hl 1 rfl) ?_
              obtain ⟨v17, hu17, h⟩ := pu_bd h
              refine cc_V (As := [.int x2_10, .int x1_2]) (rest := []) ⟨hx, hb, hml, hown, hts⟩ (c_Spots_spotAt l dC dI cI cJ cZ q_o q_o_spotOf q_o_changes q_o_joinedX q_o_joinedY q_o_facts x2_10 x1_2 o_width o_height o_joined_11 o_found_12 o_marked o_spotOf_n o_spotOf_f_13 v17 hu17) (cwV 2 hts (gV k_268 k_269 k_270 k_7 k_271 rfl) rfl rfl rfl hdV_Spots_spotAt ⟨Nat.le_of_ble_eq_true rfl, Nat.le_of_ble_eq_true rfl⟩) hK hN hP hD hS hA [0, 1] [2, 3, 4, 5] (w0 := [(q_o, .inr (6, [.int o_width, .int o_height, .ref q_o_spotOf, .ref q_o_changes, .ref q_o_joinedX, .ref q_o_joinedY, .int o_joined_11, .ref q_o_facts, .int o_found_12, .int o_marked])), (q_o_spotOf, .inl (cI, o_spotOf_n, .inl o_spotOf_f_13))]) (wr := [(q_o_changes, .inl (cI, o_changes_n, .inl o_changes_f)), (q_o_joinedX, .inl (cI, o_joinedX_n, .inl o_joinedX_f_14)), (q_o_joinedY, .inl (cI, o_joinedY_n, .inl o_joinedY_f_15)), (q_o_facts, .inl (cI, o_facts_n, .inl o_facts_f_16))]) rfl rfl (by decide) (by decide) (by decide) 6 rfl rfl rfl hl.1 rfl (Nat.le_of_ble_eq_true rfl) d_Spots_join_23 ⟨Nat.le_of_ble_eq_true rfl, Nat.le_of_ble_eq_true rfl⟩ (fun w1 H locs hw1 hP hD hS => ?_)
              subst hw1
              have hP : va_P (dC, dI) vwCl [(q_o_changes, .inl (cI, o_changes_n, .inl o_changes_f)), (q_o_joinedX, .inl (cI, o_joinedX_n, .inl o_joinedX_f_14)), (q_o_joinedY, .inl (cI, o_joinedY_n, .inl o_joinedY_f_15)), (q_o_facts, .inl (cI, o_facts_n, .inl o_facts_f_16)), (q_o, .inr (6, [.int o_width, .int o_height, .ref q_o_spotOf, .ref q_o_changes, .ref q_o_joinedX, .ref q_o_joinedY, .int o_joined_11, .ref q_o_facts, .int o_found_12, .int o_marked])), (q_o_spotOf, .inl (cI, o_spotOf_n, .inl o_spotOf_f_13))] H := hP
              have hD : va_D A [(q_o_changes, .inl (cI, o_changes_n, .inl o_changes_f)), (q_o_joinedX, .inl (cI, o_joinedX_n, .inl o_joinedX_f_14)), (q_o_joinedY, .inl (cI, o_joinedY_n, .inl o_joinedY_f_15)), (q_o_facts, .inl (cI, o_facts_n, .inl o_facts_f_16)), (q_o, .inr (6, [.int o_width, .int o_height, .ref q_o_spotOf, .ref q_o_changes, .ref q_o_joinedX, .ref q_o_joinedY, .int o_joined_11, .ref q_o_facts, .int o_found_12, .int o_marked])), (q_o_spotOf, .inl (cI, o_spotOf_n, .inl o_spotOf_f_13))] := hD
              refine lv_bipush (v := (-2)) hx hb d_Spots_join_26 (by decide) ?_
              refine lv_icmp_ne (tgt := 68) hx hb d_Spots_join_28 (by decide) (fun hc => ?_) (fun hc => ?_)
              · have h := pu_f hc h
                refine lv_iinc (v := (x2_10 + 1)) (lv' := [(2, .int (x2_10 + 1)), (1, .int x1_2), (0, .ref q_o)]) hx hb d_Spots_join_68 hl (k := 0) rfl rfl (by decide) rfl (fun ls hl => ?_)
                refine lv_goto (tgt := 12) hx hb d_Spots_join_71 (by decide) ?_
                cases h
                exact ih (x2_10 + 1) o_joined_11 o_found_12 o_spotOf_f_13 o_joinedX_f_14 o_joinedY_f_15 o_facts_f_16 H locs ls hr_9 (lv_sub hl [0, 1, 2] rfl) (hP.sub [4, 5, 0, 1, 2, 3] rfl) (hD.sub [4, 5, 0, 1, 2, 3] (by decide) rfl) hS
              · have h := pu_t hc h
                refine lv_aload_n hx hb d_Spots_join_31 rfl (lv_at hl 2 rfl) ?_
                refine va_get (D := (dC, dI)) (ci := 6) (v := .int o_found_12) (C := R_Spots) (T := F_Spots) (N := 10) hx hb hts i_Spots hown hK hP 4 rfl rfl 8 (by decide) (hts _ k_129) (fun _ h9 => h9) rfl d_Spots_join_32 ?_
                refine lv_iconst (v := 1) hx hb d_Spots_join_35 (by decide) ?_
                refine lv_iadd hx hb d_Spots_join_36 ?_
                refine lv_bipush (v := 7) hx hb d_Spots_join_37 (by decide) ?_
                refine lv_imul hx hb d_Spots_join_39 ?_
                refine lv_aload_n hx hb d_Spots_join_40 rfl (lv_at hl 2 rfl) ?_
                refine va_get (D := (dC, dI)) (ci := 6) (v := .ref q_o_facts) (C := R_Spots) (T := F_Spots) (N := 10) hx hb hts i_Spots hown hK hP 4 rfl rfl 7 (by decide) (hts _ k_128) (fun _ h9 => h9) rfl d_Spots_join_41 ?_
                refine va_alen (v := Int32.ofNat o_facts_n) hx hb hK hP 3 0 rfl rfl rfl d_Spots_join_44 ?_
                refine lv_icmp_gt (tgt := 68) hx hb d_Spots_join_45 (by decide) (fun hc => ?_) (fun hc => ?_)
                · have h := pu_t hc h
                  refine lv_iinc (v := (x2_10 + 1)) (lv' := [(2, .int (x2_10 + 1)), (1, .int x1_2), (0, .ref q_o)]) hx hb d_Spots_join_68 hl (k := 0) rfl rfl (by decide) rfl (fun ls hl => ?_)
                  refine lv_goto (tgt := 12) hx hb d_Spots_join_71 (by decide) ?_
                  cases h
                  exact ih (x2_10 + 1) o_joined_11 o_found_12 o_spotOf_f_13 o_joinedX_f_14 o_joinedY_f_15 o_facts_f_16 H locs ls hr_9 (lv_sub hl [0, 1, 2] rfl) (hP.sub [4, 5, 0, 1, 2, 3] rfl) (hD.sub [4, 5, 0, 1, 2, 3] (by decide) rfl) hS
                · have h := pu_f hc h
                  refine lv_aload_n hx hb d_Spots_join_48 rfl (lv_at hl 2 rfl) ?_
                  refine lv_iload_n hx hb d_Spots_join_49 rfl (lv_at hl 0 rfl) ?_
                  refine lv_iload_n hx hb d_Spots_join_50 rfl (lv_at hl 1 rfl) ?_
                  obtain ⟨⟨u18_0, u18_1, u18_2, u18_3⟩, hu18, h⟩ := pu_bd h
                  try dsimp only at h
                  refine cc_V (As := [.int x2_10, .int x1_2]) (rest := []) ⟨hx, hb, hml, hown, hts⟩ (c_Spots_joinFrom l dC dI cI cJ cZ q_o q_o_spotOf q_o_changes q_o_joinedX q_o_joinedY q_o_facts x2_10 x1_2 o_width o_height o_joined_11 o_found_12 o_marked o_spotOf_n o_spotOf_f_13 o_joinedX_n o_joinedX_f_14 o_joinedY_n o_joinedY_f_15 u18_0 u18_1 u18_2 u18_3 hu18) (cwV 2 hts (gV k_272 k_274 kp_5 k_7 k_275 rfl) rfl rfl rfl hdV_Spots_joinFrom ⟨Nat.le_of_ble_eq_true rfl, Nat.le_of_ble_eq_true rfl⟩) hK hN hP hD hS hA [4, 5, 1, 2] [0, 3] (w0 := [(q_o, .inr (6, [.int o_width, .int o_height, .ref q_o_spotOf, .ref q_o_changes, .ref q_o_joinedX, .ref q_o_joinedY, .int o_joined_11, .ref q_o_facts, .int o_found_12, .int o_marked])), (q_o_spotOf, .inl (cI, o_spotOf_n, .inl o_spotOf_f_13)), (q_o_joinedX, .inl (cI, o_joinedX_n, .inl o_joinedX_f_14)), (q_o_joinedY, .inl (cI, o_joinedY_n, .inl o_joinedY_f_15))]) (wr := [(q_o_changes, .inl (cI, o_changes_n, .inl o_changes_f)), (q_o_facts, .inl (cI, o_facts_n, .inl o_facts_f_16))]) rfl rfl (by decide) (by decide) (by decide) 6 rfl rfl rfl hl.1 rfl (Nat.le_of_ble_eq_true rfl) d_Spots_join_51 ⟨Nat.le_of_ble_eq_true rfl, Nat.le_of_ble_eq_true rfl⟩ (fun w1 H locs hw1 hP hD hS => ?_)
                  subst hw1
                  have hP : va_P (dC, dI) vwCl [(q_o_changes, .inl (cI, o_changes_n, .inl o_changes_f)), (q_o_facts, .inl (cI, o_facts_n, .inl o_facts_f_16)), (q_o, .inr (6, [.int o_width, .int o_height, .ref q_o_spotOf, .ref q_o_changes, .ref q_o_joinedX, .ref q_o_joinedY, .int u18_0, .ref q_o_facts, .int o_found_12, .int o_marked])), (q_o_spotOf, .inl (cI, o_spotOf_n, .inl u18_1)), (q_o_joinedX, .inl (cI, o_joinedX_n, .inl u18_2)), (q_o_joinedY, .inl (cI, o_joinedY_n, .inl u18_3))] H := hP
                  have hD : va_D A [(q_o_changes, .inl (cI, o_changes_n, .inl o_changes_f)), (q_o_facts, .inl (cI, o_facts_n, .inl o_facts_f_16)), (q_o, .inr (6, [.int o_width, .int o_height, .ref q_o_spotOf, .ref q_o_changes, .ref q_o_joinedX, .ref q_o_joinedY, .int u18_0, .ref q_o_facts, .int o_found_12, .int o_marked])), (q_o_spotOf, .inl (cI, o_spotOf_n, .inl u18_1)), (q_o_joinedX, .inl (cI, o_joinedX_n, .inl u18_2)), (q_o_joinedY, .inl (cI, o_joinedY_n, .inl u18_3))] := hD
                  refine lv_aload_n hx hb d_Spots_join_54 rfl (lv_at hl 2 rfl) ?_
                  obtain ⟨u19_0, hu19, h⟩ := pu_bd h
                  refine cc_V (As := []) (rest := []) ⟨hx, hb, hml, hown, hts⟩ (c_Spots_describe l dC dI cI cJ cZ q_o q_o_spotOf q_o_changes q_o_joinedX q_o_joinedY q_o_facts o_width o_height u18_0 o_found_12 o_marked o_spotOf_n u18_1 o_changes_n o_changes_f o_joinedX_n u18_2 o_joinedY_n u18_3 o_facts_n o_facts_f_16 u19_0 hu19) (cwV 0 hts (gV k_280 k_282 kp_7 k_7 k_283 rfl) rfl rfl rfl hdV_Spots_describe ⟨Nat.le_of_ble_eq_true rfl, Nat.le_of_ble_eq_true rfl⟩) hK hN hP hD hS hA [2, 3, 0, 4, 5, 1] [] (w0 := [(q_o, .inr (6, [.int o_width, .int o_height, .ref q_o_spotOf, .ref q_o_changes, .ref q_o_joinedX, .ref q_o_joinedY, .int u18_0, .ref q_o_facts, .int o_found_12, .int o_marked])), (q_o_spotOf, .inl (cI, o_spotOf_n, .inl u18_1)), (q_o_changes, .inl (cI, o_changes_n, .inl o_changes_f)), (q_o_joinedX, .inl (cI, o_joinedX_n, .inl u18_2)), (q_o_joinedY, .inl (cI, o_joinedY_n, .inl u18_3)), (q_o_facts, .inl (cI, o_facts_n, .inl o_facts_f_16))]) (wr := []) rfl rfl (by decide) (by decide) (by decide) 6 rfl rfl rfl hl.1 rfl (Nat.le_of_ble_eq_true rfl) d_Spots_join_55 ⟨Nat.le_of_ble_eq_true rfl, Nat.le_of_ble_eq_true rfl⟩ (fun w1 H locs hw1 hP hD hS => ?_)
                  subst hw1
                  have hP : va_P (dC, dI) vwCl [(q_o, .inr (6, [.int o_width, .int o_height, .ref q_o_spotOf, .ref q_o_changes, .ref q_o_joinedX, .ref q_o_joinedY, .int u18_0, .ref q_o_facts, .int o_found_12, .int o_marked])), (q_o_spotOf, .inl (cI, o_spotOf_n, .inl u18_1)), (q_o_changes, .inl (cI, o_changes_n, .inl o_changes_f)), (q_o_joinedX, .inl (cI, o_joinedX_n, .inl u18_2)), (q_o_joinedY, .inl (cI, o_joinedY_n, .inl u18_3)), (q_o_facts, .inl (cI, o_facts_n, .inl u19_0))] H := hP
                  have hD : va_D A [(q_o, .inr (6, [.int o_width, .int o_height, .ref q_o_spotOf, .ref q_o_changes, .ref q_o_joinedX, .ref q_o_joinedY, .int u18_0, .ref q_o_facts, .int o_found_12, .int o_marked])), (q_o_spotOf, .inl (cI, o_spotOf_n, .inl u18_1)), (q_o_changes, .inl (cI, o_changes_n, .inl o_changes_f)), (q_o_joinedX, .inl (cI, o_joinedX_n, .inl u18_2)), (q_o_joinedY, .inl (cI, o_joinedY_n, .inl u18_3)), (q_o_facts, .inl (cI, o_facts_n, .inl u19_0))] := hD
                  refine lv_aload_n hx hb d_Spots_join_58 rfl (lv_at hl 2 rfl) ?_
                  refine lv_dup hx hb d_Spots_join_59 rfl ?_
                  refine va_get (D := (dC, dI)) (ci := 6) (v := .int o_found_12) (C := R_Spots) (T := F_Spots) (N := 10) hx hb hts i_Spots hown hK hP 0 rfl rfl 8 (by decide) (hts _ k_129) (fun _ h9 => h9) rfl d_Spots_join_60 ?_
                  refine lv_iconst (v := 1) hx hb d_Spots_join_63 (by decide) ?_
                  refine lv_iadd hx hb d_Spots_join_64 ?_
                  refine va_put (D := (dC, dI)) (ci := 6) (v := .int (o_found_12 + 1)) (ty := .int) (C := R_Spots) (T := F_Spots) (N := 10) hx hb hts i_Spots t_Spots t_Spots_ok n_Spots hown hK hP hD hS 0 rfl rfl 8 (by decide) (hts _ k_129) (fun _ h9 => h9) rfl (by decide +kernel) rfl rfl (Nat.le_of_ble_eq_true rfl) d_Spots_join_65 (fun H locs hP hD hS => ?_)
                  have hP : va_P (dC, dI) vwCl [(q_o, .inr (6, [.int o_width, .int o_height, .ref q_o_spotOf, .ref q_o_changes, .ref q_o_joinedX, .ref q_o_joinedY, .int u18_0, .ref q_o_facts, .int (o_found_12 + 1), .int o_marked])), (q_o_spotOf, .inl (cI, o_spotOf_n, .inl u18_1)), (q_o_changes, .inl (cI, o_changes_n, .inl o_changes_f)), (q_o_joinedX, .inl (cI, o_joinedX_n, .inl u18_2)), (q_o_joinedY, .inl (cI, o_joinedY_n, .inl u18_3)), (q_o_facts, .inl (cI, o_facts_n, .inl u19_0))] H := hP
                  have hD : va_D A [(q_o, .inr (6, [.int o_width, .int o_height, .ref q_o_spotOf, .ref q_o_changes, .ref q_o_joinedX, .ref q_o_joinedY, .int u18_0, .ref q_o_facts, .int (o_found_12 + 1), .int o_marked])), (q_o_spotOf, .inl (cI, o_spotOf_n, .inl u18_1)), (q_o_changes, .inl (cI, o_changes_n, .inl o_changes_f)), (q_o_joinedX, .inl (cI, o_joinedX_n, .inl u18_2)), (q_o_joinedY, .inl (cI, o_joinedY_n, .inl u18_3)), (q_o_facts, .inl (cI, o_facts_n, .inl u19_0))] := hD
                  refine lv_iinc (v := (x2_10 + 1)) (lv' := [(2, .int (x2_10 + 1)), (1, .int x1_2), (0, .ref q_o)]) hx hb d_Spots_join_68 hl (k := 0) rfl rfl (by decide) rfl (fun ls hl => ?_)
                  refine lv_goto (tgt := 12) hx hb d_Spots_join_71 (by decide) ?_
                  cases h
                  exact ih (x2_10 + 1) u18_0 (o_found_12 + 1) u18_1 u18_2 u18_3 u19_0 H locs ls hr_9 (lv_sub hl [0, 1, 2] rfl) (hP.sub [0, 1, 2, 3, 4, 5] rfl) (hD.sub [0, 1, 2, 3, 4, 5] (by decide) rfl) hS
        exact L_9 n_9 0 o_joined_3 o_found_4 o_spotOf_f_5 o_joinedX_f_6 o_joinedY_f_7 o_facts_f_8 H locs ls hn_9 hl hP hD hS
  exact L_1 n_1 0 o_joined o_found o_spotOf_f o_joinedX_f o_joinedY_f o_facts_f H locs ls hn_1 hl hP hD hS

noncomputable def p_Spots_factOf (a1 : Int32) (a2 : Int32) (o_width : Int32) (o_height : Int32) (o_joined : Int32) (o_found : Int32) (o_marked : Int32) (o_facts_n : Nat) (o_facts_f : Nat → Int32) : Option (Int32) :=
  pu_gd (vp_in ((a1 * 7) + a2) o_facts_n) (some (o_facts_f ((a1 * 7) + a2).toNatClampNeg))
set_option maxHeartbeats 4000000 in
set_option maxRecDepth 100000 in
theorem c_Spots_factOf (l : Launch) (dC : Nat → ClassId) (dI : Nat → Nat → Nat) (cI cJ cZ : ClassId) (q_o q_o_spotOf q_o_changes q_o_joinedX q_o_joinedY q_o_facts : Nat) (a1 : Int32) (a2 : Int32) (o_width : Int32) (o_height : Int32) (o_joined : Int32) (o_found : Int32) (o_marked : Int32) (o_facts_n : Nat) (o_facts_f : Nat → Int32) (r0 : Int32) (h : p_Spots_factOf a1 a2 o_width o_height o_joined o_found o_marked o_facts_n o_facts_f = some r0) : ct l y_Spots_factOf w_Spots_factOf rm_Spots_factOf (dC, dI) [(cI, .int), (cJ, .long), (cZ, .boolean)] [.ref q_o, .int a1, .int a2] [(q_o, .inr (6, [.int o_width, .int o_height, .ref q_o_spotOf, .ref q_o_changes, .ref q_o_joinedX, .ref q_o_joinedY, .int o_joined, .ref q_o_facts, .int o_found, .int o_marked])), (q_o_facts, .inl (cI, o_facts_n, .inl o_facts_f))] (fun w => w = [(q_o, .inr (6, [.int o_width, .int o_height, .ref q_o_spotOf, .ref q_o_changes, .ref q_o_joinedX, .ref q_o_joinedY, .int o_joined, .ref q_o_facts, .int o_found, .int o_marked])), (q_o_facts, .inl (cI, o_facts_n, .inl o_facts_f))]) (some (.int r0)) := by
  refine ct_of (cc := b_Spots_factOf) (maxL := 3) (ret := (some .int)) (lv := [(0, .ref q_o), (1, .int a1), (2, .int a2)]) (by decide) rfl rfl rfl ?_
  intro p e s m args below meth c A Q H locs hx hb hml hown hts hin hA hK hN hP hD hS RT ls hl
  unfold p_Spots_factOf at h
  refine lv_aload_n hx hb d_Spots_factOf_0 rfl (lv_at hl 0 rfl) ?_
  refine va_get (D := (dC, dI)) (ci := 6) (v := .ref q_o_facts) (C := R_Spots) (T := F_Spots) (N := 10) hx hb hts i_Spots hown hK hP 0 rfl rfl 7 (by decide) (hts _ k_128) (fun _ h9 => h9) rfl d_Spots_factOf_1 ?_
  refine lv_iload_n hx hb d_Spots_factOf_4 rfl (lv_at hl 1 rfl) ?_
  refine lv_bipush (v := 7) hx hb d_Spots_factOf_5 (by decide) ?_
  refine lv_imul hx hb d_Spots_factOf_7 ?_
  refine lv_iload_n hx hb d_Spots_factOf_8 rfl (lv_at hl 2 rfl) ?_
  refine lv_iadd hx hb d_Spots_factOf_9 ?_
  obtain ⟨hg, h⟩ := pu_g h
  refine va_iald hx hb hK hP 1 0 rfl rfl hg d_Spots_factOf_10 ?_
  cases h
  refine W.widen (k := 0) (n := 0) (Nat.le_of_ble_eq_true rfl) (Nat.le_of_ble_eq_true rfl) ?_
  exact RT 11 ls H locs _ d_Spots_factOf_11 (Or.inr (Or.inl ⟨rfl, _, rfl⟩)) rfl (hP.sub [0, 1] rfl) (hD.sub [0, 1] (by decide) rfl) hS

noncomputable def p_Spots_isAlarming (a1 : Int32) (a2 : Int32) (a3 : Int32) (o_width : Int32) (o_height : Int32) (o_joined : Int32) (o_found : Int32) (o_marked : Int32) (o_facts_n : Nat) (o_facts_f : Nat → Int32) : Option (Int32) :=
  (p_Spots_factOf a1 6 o_width o_height o_joined o_found o_marked o_facts_n o_facts_f).bind (fun (v1 : Int32) => (p_Spots_factOf a1 1 o_width o_height o_joined o_found o_marked o_facts_n o_facts_f).bind (fun (v2 : Int32) => (if a2 < v2 then some 1 else (if v1 = (-1) then some 0 else (if v1 < a3 then some 0 else some 1)))))
set_option maxHeartbeats 4000000 in
set_option maxRecDepth 100000 in
theorem c_Spots_isAlarming (l : Launch) (dC : Nat → ClassId) (dI : Nat → Nat → Nat) (cI cJ cZ : ClassId) (q_o q_o_spotOf q_o_changes q_o_joinedX q_o_joinedY q_o_facts : Nat) (a1 : Int32) (a2 : Int32) (a3 : Int32) (o_width : Int32) (o_height : Int32) (o_joined : Int32) (o_found : Int32) (o_marked : Int32) (o_facts_n : Nat) (o_facts_f : Nat → Int32) (r0 : Int32) (h : p_Spots_isAlarming a1 a2 a3 o_width o_height o_joined o_found o_marked o_facts_n o_facts_f = some r0) : ct l y_Spots_isAlarming w_Spots_isAlarming rm_Spots_isAlarming (dC, dI) [(cI, .int), (cJ, .long), (cZ, .boolean)] [.ref q_o, .int a1, .int a2, .int a3] [(q_o, .inr (6, [.int o_width, .int o_height, .ref q_o_spotOf, .ref q_o_changes, .ref q_o_joinedX, .ref q_o_joinedY, .int o_joined, .ref q_o_facts, .int o_found, .int o_marked])), (q_o_facts, .inl (cI, o_facts_n, .inl o_facts_f))] (fun w => w = [(q_o, .inr (6, [.int o_width, .int o_height, .ref q_o_spotOf, .ref q_o_changes, .ref q_o_joinedX, .ref q_o_joinedY, .int o_joined, .ref q_o_facts, .int o_found, .int o_marked])), (q_o_facts, .inl (cI, o_facts_n, .inl o_facts_f))]) (some (.int r0)) := by
  refine ct_of (cc := b_Spots_isAlarming) (maxL := 5) (ret := (some .boolean)) (lv := [(0, .ref q_o), (1, .int a1), (2, .int a2), (3, .int a3)]) (by decide) rfl rfl rfl ?_
  intro p e s m args below meth c A Q H locs hx hb hml hown hts hin hA hK hN hP hD hS RT ls hl
  unfold p_Spots_isAlarming at h
  refine lv_aload_n hx hb d_Spots_isAlarming_0 rfl (lv_at hl 0 rfl) ?_
  refine lv_iload_n hx hb d_Spots_isAlarming_1 rfl (lv_at hl 1 rfl) ?_
  refine lv_bipush (v := 6) hx hb d_Spots_isAlarming_2 (by decide) ?_
  obtain ⟨v1, hu1, h⟩ := pu_bd h
  refine cc_V (As := [.int a1, .int 6]) (rest := []) ⟨hx, hb, hml, hown, hts⟩ (c_Spots_factOf l dC dI cI cJ cZ q_o q_o_spotOf q_o_changes q_o_joinedX q_o_joinedY q_o_facts a1 6 o_width o_height o_joined o_found o_marked o_facts_n o_facts_f v1 hu1) (cwV 2 hts (gV k_561 k_539 k_540 k_7 k_541 rfl) rfl rfl rfl hdV_Spots_factOf ⟨Nat.le_of_ble_eq_true rfl, Nat.le_of_ble_eq_true rfl⟩) hK hN hP hD hS hA [0, 1] [] (w0 := [(q_o, .inr (6, [.int o_width, .int o_height, .ref q_o_spotOf, .ref q_o_changes, .ref q_o_joinedX, .ref q_o_joinedY, .int o_joined, .ref q_o_facts, .int o_found, .int o_marked])), (q_o_facts, .inl (cI, o_facts_n, .inl o_facts_f))]) (wr := []) rfl rfl (by decide) (by decide) (by decide) 6 rfl rfl rfl hl.1 rfl (Nat.le_of_ble_eq_true rfl) d_Spots_isAlarming_4 ⟨Nat.le_of_ble_eq_true rfl, Nat.le_of_ble_eq_true rfl⟩ (fun w1 H locs hw1 hP hD hS => ?_)
  subst hw1
  have hP : va_P (dC, dI) vwCl [(q_o, .inr (6, [.int o_width, .int o_height, .ref q_o_spotOf, .ref q_o_changes, .ref q_o_joinedX, .ref q_o_joinedY, .int o_joined, .ref q_o_facts, .int o_found, .int o_marked])), (q_o_facts, .inl (cI, o_facts_n, .inl o_facts_f))] H := hP
  have hD : va_D A [(q_o, .inr (6, [.int o_width, .int o_height, .ref q_o_spotOf, .ref q_o_changes, .ref q_o_joinedX, .ref q_o_joinedY, .int o_joined, .ref q_o_facts, .int o_found, .int o_marked])), (q_o_facts, .inl (cI, o_facts_n, .inl o_facts_f))] := hD
  refine lv_istore (lv' := [(4, .int v1), (0, .ref q_o), (1, .int a1), (2, .int a2), (3, .int a3)]) hx hb d_Spots_isAlarming_7 hl (by decide) rfl (fun ls hl => ?_)
  refine lv_aload_n hx hb d_Spots_isAlarming_9 rfl (lv_at hl 1 rfl) ?_
  refine lv_iload_n hx hb d_Spots_isAlarming_10 rfl (lv_at hl 2 rfl) ?_
  refine lv_iconst (v := 1) hx hb d_Spots_isAlarming_11 (by decide) ?_
  obtain ⟨v2, hu2, h⟩ := pu_bd h
  refine cc_V (As := [.int a1, .int 1]) (rest := []) ⟨hx, hb, hml, hown, hts⟩ (c_Spots_factOf l dC dI cI cJ cZ q_o q_o_spotOf q_o_changes q_o_joinedX q_o_joinedY q_o_facts a1 1 o_width o_height o_joined o_found o_marked o_facts_n o_facts_f v2 hu2) (cwV 2 hts (gV k_561 k_539 k_540 k_7 k_541 rfl) rfl rfl rfl hdV_Spots_factOf ⟨Nat.le_of_ble_eq_true rfl, Nat.le_of_ble_eq_true rfl⟩) hK hN hP hD hS hA [0, 1] [] (w0 := [(q_o, .inr (6, [.int o_width, .int o_height, .ref q_o_spotOf, .ref q_o_changes, .ref q_o_joinedX, .ref q_o_joinedY, .int o_joined, .ref q_o_facts, .int o_found, .int o_marked])), (q_o_facts, .inl (cI, o_facts_n, .inl o_facts_f))]) (wr := []) rfl rfl (by decide) (by decide) (by decide) 6 rfl rfl rfl hl.1 rfl (Nat.le_of_ble_eq_true rfl) d_Spots_isAlarming_12 ⟨Nat.le_of_ble_eq_true rfl, Nat.le_of_ble_eq_true rfl⟩ (fun w1 H locs hw1 hP hD hS => ?_)
  subst hw1
  have hP : va_P (dC, dI) vwCl [(q_o, .inr (6, [.int o_width, .int o_height, .ref q_o_spotOf, .ref q_o_changes, .ref q_o_joinedX, .ref q_o_joinedY, .int o_joined, .ref q_o_facts, .int o_found, .int o_marked])), (q_o_facts, .inl (cI, o_facts_n, .inl o_facts_f))] H := hP
  have hD : va_D A [(q_o, .inr (6, [.int o_width, .int o_height, .ref q_o_spotOf, .ref q_o_changes, .ref q_o_joinedX, .ref q_o_joinedY, .int o_joined, .ref q_o_facts, .int o_found, .int o_marked])), (q_o_facts, .inl (cI, o_facts_n, .inl o_facts_f))] := hD
  refine lv_iload_n hx hb d_Spots_isAlarming_15 rfl (lv_at hl 3 rfl) ?_
  refine lv_icmp_gt (tgt := 31) hx hb d_Spots_isAlarming_16 (by decide) (fun hc => ?_) (fun hc => ?_)
  · have h := pu_t hc h
    refine lv_iconst (v := 1) hx hb d_Spots_isAlarming_31 (by decide) ?_
    refine lv_goto (tgt := 36) hx hb d_Spots_isAlarming_32 (by decide) ?_
    cases h
    refine W.widen (k := 0) (n := 0) (Nat.le_of_ble_eq_true rfl) (Nat.le_of_ble_eq_true rfl) ?_
    exact RT 36 ls H locs _ d_Spots_isAlarming_36 (Or.inr (Or.inr (Or.inr ⟨rfl, _, rfl, rfl⟩))) rfl (hP.sub [0, 1] rfl) (hD.sub [0, 1] (by decide) rfl) hS
  · have h := pu_f hc h
    refine lv_iload hx hb d_Spots_isAlarming_19 (lv_at hl 0 rfl) ?_
    refine lv_iconst (v := (-1)) hx hb d_Spots_isAlarming_21 (by decide) ?_
    refine lv_icmp_eq (tgt := 35) hx hb d_Spots_isAlarming_22 (by decide) (fun hc => ?_) (fun hc => ?_)
    · have h := pu_t hc h
      refine lv_iconst (v := 0) hx hb d_Spots_isAlarming_35 (by decide) ?_
      cases h
      refine W.widen (k := 0) (n := 0) (Nat.le_of_ble_eq_true rfl) (Nat.le_of_ble_eq_true rfl) ?_
      exact RT 36 ls H locs _ d_Spots_isAlarming_36 (Or.inr (Or.inr (Or.inr ⟨rfl, _, rfl, rfl⟩))) rfl (hP.sub [0, 1] rfl) (hD.sub [0, 1] (by decide) rfl) hS
    · have h := pu_f hc h
      refine lv_iload hx hb d_Spots_isAlarming_25 (lv_at hl 0 rfl) ?_
      refine lv_iload_n hx hb d_Spots_isAlarming_27 rfl (lv_at hl 4 rfl) ?_
      refine lv_icmp_lt (tgt := 35) hx hb d_Spots_isAlarming_28 (by decide) (fun hc => ?_) (fun hc => ?_)
      · have h := pu_t hc h
        refine lv_iconst (v := 0) hx hb d_Spots_isAlarming_35 (by decide) ?_
        cases h
        refine W.widen (k := 0) (n := 0) (Nat.le_of_ble_eq_true rfl) (Nat.le_of_ble_eq_true rfl) ?_
        exact RT 36 ls H locs _ d_Spots_isAlarming_36 (Or.inr (Or.inr (Or.inr ⟨rfl, _, rfl, rfl⟩))) rfl (hP.sub [0, 1] rfl) (hD.sub [0, 1] (by decide) rfl) hS
      · have h := pu_f hc h
        refine lv_iconst (v := 1) hx hb d_Spots_isAlarming_31 (by decide) ?_
        refine lv_goto (tgt := 36) hx hb d_Spots_isAlarming_32 (by decide) ?_
        cases h
        refine W.widen (k := 0) (n := 0) (Nat.le_of_ble_eq_true rfl) (Nat.le_of_ble_eq_true rfl) ?_
        exact RT 36 ls H locs _ d_Spots_isAlarming_36 (Or.inr (Or.inr (Or.inr ⟨rfl, _, rfl, rfl⟩))) rfl (hP.sub [0, 1] rfl) (hD.sub [0, 1] (by decide) rfl) hS
