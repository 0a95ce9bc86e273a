noncomputable def p_Shift_init  : Option (Int32 × Int32 × Int32 × Int32) :=
  some (0, 0, 0, 0)
set_option maxHeartbeats 4000000 in
set_option maxRecDepth 100000 in
theorem c_Shift_init (l : Launch) (dC : Nat → ClassId) (dI : Nat → Nat → Nat) (cI cJ cZ : ClassId) (q_o : Nat)  (r0 : Int32) (r1 : Int32) (r2 : Int32) (r3 : Int32) (h : p_Shift_init = some (r0, r1, r2, r3)) : ct l y_Shift_init w_Shift_init rm_Shift_init (dC, dI) [(cI, .int), (cJ, .long), (cZ, .boolean)] [.ref q_o] [(q_o, .inr (5, [.int 0, .int 0, .int 0, .int 0]))] (fun w => w = [(q_o, .inr (5, [.int r0, .int r1, .int r2, .int r3]))]) none := by
  refine ct_of (cc := b_Shift_init) (maxL := 1) (ret := none) (lv := [(0, .ref q_o)]) (by decide) rfl rfl rfl ?_
  intro p e s m args below meth c A Q H locs hx hb hml hown hts hin hA hK hN hP hD hS RT ls hl
  unfold p_Shift_init at h
  refine lv_aload_n hx hb d_Shift_init_0 rfl (lv_at hl 0 rfl) ?_
  refine W.objInit hx hb hown (hts _ k_38) (hts _ k_22) (hts _ k_23) rfl (by rw [hml]; exact hl.1) rfl d_Shift_init_1 (Nat.le_of_ble_eq_true rfl) (Nat.le_of_ble_eq_true rfl) ?_
  refine W.eq (g2 := F0 m 4 ls []) rfl ?_
  cases h
  refine W.widen (k := 0) (n := 0) (Nat.le_of_ble_eq_true rfl) (Nat.le_of_ble_eq_true rfl) ?_
  exact RT 4 ls H locs _ d_Shift_init_4 (Or.inl ⟨rfl, rfl⟩) rfl (hP.sub [0] rfl) (hD.sub [0] (by decide) rfl) hS

noncomputable def p_Shift_moveTo (a1 : Int32) (a2 : Int32) (o_across : Int32) (o_down : Int32) (o_differences : Int32) (o_cells : Int32) : Option (Int32 × Int32 × Int32 × Int32) :=
  some (a1, a2, 0, 0)
set_option maxHeartbeats 4000000 in
set_option maxRecDepth 100000 in
theorem c_Shift_moveTo (l : Launch) (dC : Nat → ClassId) (dI : Nat → Nat → Nat) (cI cJ cZ : ClassId) (q_o : Nat) (a1 : Int32) (a2 : Int32) (o_across : Int32) (o_down : Int32) (o_differences : Int32) (o_cells : Int32) (r0 : Int32) (r1 : Int32) (r2 : Int32) (r3 : Int32) (h : p_Shift_moveTo a1 a2 o_across o_down o_differences o_cells = some (r0, r1, r2, r3)) : ct l y_Shift_moveTo w_Shift_moveTo rm_Shift_moveTo (dC, dI) [(cI, .int), (cJ, .long), (cZ, .boolean)] [.ref q_o, .int a1, .int a2] [(q_o, .inr (5, [.int o_across, .int o_down, .int o_differences, .int o_cells]))] (fun w => w = [(q_o, .inr (5, [.int r0, .int r1, .int r2, .int r3]))]) none := by
  refine ct_of (cc := b_Shift_moveTo) (maxL := 3) (ret := none) (lv := [(0, .ref q_o), (1, .int a1), (2, .int a2)]) (by decide) rfl rfl rfl ?_
  intro p e s m args below meth c A Q H locs hx hb hml hown hts hin hA hK hN hP hD hS RT ls hl
  unfold p_Shift_moveTo at h
  refine lv_aload_n hx hb d_Shift_moveTo_0 rfl (lv_at hl 0 rfl) ?_
  refine lv_iload_n hx hb d_Shift_moveTo_1 rfl (lv_at hl 1 rfl) ?_
  refine va_put (D := (dC, dI)) (ci := 5) (v := .int a1) (ty := .int) (C := R_Shift) (T := F_Shift) (N := 4) hx hb hts i_Shift t_Shift t_Shift_ok n_Shift hown hK hP hD hS 0 rfl rfl 0 (by decide) (hts _ k_39) (fun _ h9 => h9) rfl (by decide +kernel) rfl rfl (Nat.le_of_ble_eq_true rfl) d_Shift_moveTo_2 (fun H locs hP hD hS => ?_)
  have hP : va_P (dC, dI) vwCl [(q_o, .inr (5, [.int a1, .int o_down, .int o_differences, .int o_cells]))] H := hP
  have hD : va_D A [(q_o, .inr (5, [.int a1, .int o_down, .int o_differences, .int o_cells]))] := hD
  refine lv_aload_n hx hb d_Shift_moveTo_5 rfl (lv_at hl 0 rfl) ?_
  refine lv_iload_n hx hb d_Shift_moveTo_6 rfl (lv_at hl 2 rfl) ?_
  refine va_put (D := (dC, dI)) (ci := 5) (v := .int a2) (ty := .int) (C := R_Shift) (T := F_Shift) (N := 4) hx hb hts i_Shift t_Shift t_Shift_ok n_Shift hown hK hP hD hS 0 rfl rfl 1 (by decide) (hts _ k_41) (fun _ h9 => h9) rfl (by decide +kernel) rfl rfl (Nat.le_of_ble_eq_true rfl) d_Shift_moveTo_7 (fun H locs hP hD hS => ?_)
  have hP : va_P (dC, dI) vwCl [(q_o, .inr (5, [.int a1, .int a2, .int o_differences, .int o_cells]))] H := hP
  have hD : va_D A [(q_o, .inr (5, [.int a1, .int a2, .int o_differences, .int o_cells]))] := hD
  refine lv_aload_n hx hb d_Shift_moveTo_10 rfl (lv_at hl 0 rfl) ?_
  refine lv_iconst (v := 0) hx hb d_Shift_moveTo_11 (by decide) ?_
  refine va_put (D := (dC, dI)) (ci := 5) (v := .int 0) (ty := .int) (C := R_Shift) (T := F_Shift) (N := 4) hx hb hts i_Shift t_Shift t_Shift_ok n_Shift hown hK hP hD hS 0 rfl rfl 2 (by decide) (hts _ k_43) (fun _ h9 => h9) rfl (by decide +kernel) rfl rfl (Nat.le_of_ble_eq_true rfl) d_Shift_moveTo_12 (fun H locs hP hD hS => ?_)
  have hP : va_P (dC, dI) vwCl [(q_o, .inr (5, [.int a1, .int a2, .int 0, .int o_cells]))] H := hP
  have hD : va_D A [(q_o, .inr (5, [.int a1, .int a2, .int 0, .int o_cells]))] := hD
  refine lv_aload_n hx hb d_Shift_moveTo_15 rfl (lv_at hl 0 rfl) ?_
  refine lv_iconst (v := 0) hx hb d_Shift_moveTo_16 (by decide) ?_
  refine va_put (D := (dC, dI)) (ci := 5) (v := .int 0) (ty := .int) (C := R_Shift) (T := F_Shift) (N := 4) hx hb hts i_Shift t_Shift t_Shift_ok n_Shift hown hK hP hD hS 0 rfl rfl 3 (by decide) (hts _ k_45) (fun _ h9 => h9) rfl (by decide +kernel) rfl rfl (Nat.le_of_ble_eq_true rfl) d_Shift_moveTo_17 (fun H locs hP hD hS => ?_)
  have hP : va_P (dC, dI) vwCl [(q_o, .inr (5, [.int a1, .int a2, .int 0, .int 0]))] H := hP
  have hD : va_D A [(q_o, .inr (5, [.int a1, .int a2, .int 0, .int 0]))] := hD
  cases h
  refine W.widen (k := 0) (n := 0) (Nat.le_of_ble_eq_true rfl) (Nat.le_of_ble_eq_true rfl) ?_
  exact RT 20 ls H locs _ d_Shift_moveTo_20 (Or.inl ⟨rfl, rfl⟩) rfl (hP.sub [0] rfl) (hD.sub [0] (by decide) rfl) hS

noncomputable def p_Shift_add (a1 : Int32) (o_across : Int32) (o_down : Int32) (o_differences : Int32) (o_cells : Int32) : Option (Int32 × Int32) :=
  some ((o_differences + a1), (o_cells + 1))
set_option maxHeartbeats 4000000 in
set_option maxRecDepth 100000 in
theorem c_Shift_add (l : Launch) (dC : Nat → ClassId) (dI : Nat → Nat → Nat) (cI cJ cZ : ClassId) (q_o : Nat) (a1 : Int32) (o_across : Int32) (o_down : Int32) (o_differences : Int32) (o_cells : Int32) (r0 : Int32) (r1 : Int32) (h : p_Shift_add a1 o_across o_down o_differences o_cells = some (r0, r1)) : ct l y_Shift_add w_Shift_add rm_Shift_add (dC, dI) [(cI, .int), (cJ, .long), (cZ, .boolean)] [.ref q_o, .int a1] [(q_o, .inr (5, [.int o_across, .int o_down, .int o_differences, .int o_cells]))] (fun w => w = [(q_o, .inr (5, [.int o_across, .int o_down, .int r0, .int r1]))]) none := by
  refine ct_of (cc := b_Shift_add) (maxL := 2) (ret := none) (lv := [(0, .ref q_o), (1, .int a1)]) (by decide) rfl rfl rfl ?_
  intro p e s m args below meth c A Q H locs hx hb hml hown hts hin hA hK hN hP hD hS RT ls hl
  unfold p_Shift_add at h
  refine lv_aload_n hx hb d_Shift_add_0 rfl (lv_at hl 0 rfl) ?_
  refine lv_dup hx hb d_Shift_add_1 rfl ?_
  refine va_get (D := (dC, dI)) (ci := 5) (v := .int o_differences) (C := R_Shift) (T := F_Shift) (N := 4) hx hb hts i_Shift hown hK hP 0 rfl rfl 2 (by decide) (hts _ k_43) (fun _ h9 => h9) rfl d_Shift_add_2 ?_
  refine lv_iload_n hx hb d_Shift_add_5 rfl (lv_at hl 1 rfl) ?_
  refine lv_iadd hx hb d_Shift_add_6 ?_
  refine va_put (D := (dC, dI)) (ci := 5) (v := .int (o_differences + a1)) (ty := .int) (C := R_Shift) (T := F_Shift) (N := 4) hx hb hts i_Shift t_Shift t_Shift_ok n_Shift hown hK hP hD hS 0 rfl rfl 2 (by decide) (hts _ k_43) (fun _ h9 => h9) rfl (by decide +kernel) rfl rfl (Nat.le_of_ble_eq_true rfl) d_Shift_add_7 (fun H locs hP hD hS => ?_)
  have hP : va_P (dC, dI) vwCl [(q_o, .inr (5, [.int o_across, .int o_down, .int (o_differences + a1), .int o_cells]))] H := hP
  have hD : va_D A [(q_o, .inr (5, [.int o_across, .int o_down, .int (o_differences + a1), .int o_cells]))] := hD
  refine lv_aload_n hx hb d_Shift_add_10 rfl (lv_at hl 0 rfl) ?_
  refine lv_dup hx hb d_Shift_add_11 rfl ?_
  refine va_get (D := (dC, dI)) (ci := 5) (v := .int o_cells) (C := R_Shift) (T := F_Shift) (N := 4) hx hb hts i_Shift hown hK hP 0 rfl rfl 3 (by decide) (hts _ k_45) (fun _ h9 => h9) rfl d_Shift_add_12 ?_
  refine lv_iconst (v := 1) hx hb d_Shift_add_15 (by decide) ?_
  refine lv_iadd hx hb d_Shift_add_16 ?_
  refine va_put (D := (dC, dI)) (ci := 5) (v := .int (o_cells + 1)) (ty := .int) (C := R_Shift) (T := F_Shift) (N := 4) hx hb hts i_Shift t_Shift t_Shift_ok n_Shift hown hK hP hD hS 0 rfl rfl 3 (by decide) (hts _ k_45) (fun _ h9 => h9) rfl (by decide +kernel) rfl rfl (Nat.le_of_ble_eq_true rfl) d_Shift_add_17 (fun H locs hP hD hS => ?_)
  have hP : va_P (dC, dI) vwCl [(q_o, .inr (5, [.int o_across, .int o_down, .int (o_differences + a1), .int (o_cells + 1)]))] H := hP
  have hD : va_D A [(q_o, .inr (5, [.int o_across, .int o_down, .int (o_differences + a1), .int (o_cells + 1)]))] := hD
  cases h
  refine W.widen (k := 0) (n := 0) (Nat.le_of_ble_eq_true rfl) (Nat.le_of_ble_eq_true rfl) ?_
  exact RT 20 ls H locs _ d_Shift_add_20 (Or.inl ⟨rfl, rfl⟩) rfl (hP.sub [0] rfl) (hD.sub [0] (by decide) rfl) hS

noncomputable def p_Shift_together (o_across : Int32) (o_down : Int32) (o_differences : Int32) (o_cells : Int32) : Option (Int32) :=
  some ((if 0 ≤ o_across then o_across else 0 - o_across) + (if 0 ≤ o_down then o_down else 0 - o_down))
set_option maxHeartbeats 4000000 in
set_option maxRecDepth 100000 in
theorem c_Shift_together (l : Launch) (dC : Nat → ClassId) (dI : Nat → Nat → Nat) (cI cJ cZ : ClassId) (q_o : Nat) (o_across : Int32) (o_down : Int32) (o_differences : Int32) (o_cells : Int32) (r0 : Int32) (h : p_Shift_together o_across o_down o_differences o_cells = some r0) : ct l y_Shift_together w_Shift_together rm_Shift_together (dC, dI) [(cI, .int), (cJ, .long), (cZ, .boolean)] [.ref q_o] [(q_o, .inr (5, [.int o_across, .int o_down, .int o_differences, .int o_cells]))] (fun w => w = [(q_o, .inr (5, [.int o_across, .int o_down, .int o_differences, .int o_cells]))]) (some (.int r0)) := by
  refine ct_of (cc := b_Shift_together) (maxL := 1) (ret := (some .int)) (lv := [(0, .ref q_o)]) (by decide) rfl rfl rfl ?_
  intro p e s m args below meth c A Q H locs hx hb hml hown hts hin hA hK hN hP hD hS RT ls hl
  unfold p_Shift_together at h
  refine lv_aload_n hx hb d_Shift_together_0 rfl (lv_at hl 0 rfl) ?_
  refine va_get (D := (dC, dI)) (ci := 5) (v := .int o_across) (C := R_Shift) (T := F_Shift) (N := 4) hx hb hts i_Shift hown hK hP 0 rfl rfl 0 (by decide) (hts _ k_39) (fun _ h9 => h9) rfl d_Shift_together_1 ?_
  refine va_mabs hx hb (hml.trans hl.1.symm) hown (hts _ k_433) (hts _ k_248) (hts _ k_2) (hts _ k_249) (Nat.le_of_ble_eq_true rfl) (Nat.le_of_ble_eq_true rfl) (Nat.le_of_ble_eq_true rfl) (Nat.le_of_ble_eq_true rfl) d_Shift_together_4 ?_
  refine lv_aload_n hx hb d_Shift_together_7 rfl (lv_at hl 0 rfl) ?_
  refine va_get (D := (dC, dI)) (ci := 5) (v := .int o_down) (C := R_Shift) (T := F_Shift) (N := 4) hx hb hts i_Shift hown hK hP 0 rfl rfl 1 (by decide) (hts _ k_41) (fun _ h9 => h9) rfl d_Shift_together_8 ?_
  refine va_mabs hx hb (hml.trans hl.1.symm) hown (hts _ k_433) (hts _ k_248) (hts _ k_2) (hts _ k_249) (Nat.le_of_ble_eq_true rfl) (Nat.le_of_ble_eq_true rfl) (Nat.le_of_ble_eq_true rfl) (Nat.le_of_ble_eq_true rfl) d_Shift_together_11 ?_
  refine lv_iadd hx hb d_Shift_together_14 ?_
  cases h
  refine W.widen (k := 0) (n := 0) (Nat.le_of_ble_eq_true rfl) (Nat.le_of_ble_eq_true rfl) ?_
  exact RT 15 ls H locs _ d_Shift_together_15 (Or.inr (Or.inl ⟨rfl, _, rfl⟩)) rfl (hP.sub [0] rfl) (hD.sub [0] (by decide) rfl) hS

noncomputable def p_Shift_isBetterThan (o_across : Int32) (o_down : Int32) (o_differences : Int32) (o_cells : Int32) (p1_across : Int32) (p1_down : Int32) (p1_differences : Int32) (p1_cells : Int32) : Option (Int32) :=
  (if (lg_cmp ((o_differences.toInt64) * (p1_cells.toInt64)) ((p1_differences.toInt64) * (o_cells.toInt64))) = 0 then (p_Shift_together o_across o_down o_differences o_cells).bind (fun (v1 : Int32) => (p_Shift_together p1_across p1_down p1_differences p1_cells).bind (fun (v2 : Int32) => (if v1 = v2 then (if o_across = p1_across then (if p1_down ≤ o_down then some 0 else some 1) else (if p1_across ≤ o_across then some 0 else some 1)) else (p_Shift_together o_across o_down o_differences o_cells).bind (fun (v3 : Int32) => (p_Shift_together p1_across p1_down p1_differences p1_cells).bind (fun (v4 : Int32) => (if v4 ≤ v3 then some 0 else some 1)))))) else (if 0 ≤ (lg_cmp ((o_differences.toInt64) * (p1_cells.toInt64)) ((p1_differences.toInt64) * (o_cells.toInt64))) then some 0 else some 1))
set_option maxHeartbeats 4000000 in
set_option maxRecDepth 100000 in
theorem c_Shift_isBetterThan (l : Launch) (dC : Nat → ClassId) (dI : Nat → Nat → Nat) (cI cJ cZ : ClassId) (q_o q_p1 : Nat) (o_across : Int32) (o_down : Int32) (o_differences : Int32) (o_cells : Int32) (p1_across : Int32) (p1_down : Int32) (p1_differences : Int32) (p1_cells : Int32) (r0 : Int32) (h : p_Shift_isBetterThan o_across o_down o_differences o_cells p1_across p1_down p1_differences p1_cells = some r0) : ct l y_Shift_isBetterThan w_Shift_isBetterThan rm_Shift_isBetterThan (dC, dI) [(cI, .int), (cJ, .long), (cZ, .boolean)] [.ref q_o, .ref q_p1] [(q_o, .inr (5, [.int o_across, .int o_down, .int o_differences, .int o_cells])), (q_p1, .inr (5, [.int p1_across, .int p1_down, .int p1_differences, .int p1_cells]))] (fun w => w = [(q_o, .inr (5, [.int o_across, .int o_down, .int o_differences, .int o_cells])), (q_p1, .inr (5, [.int p1_across, .int p1_down, .int p1_differences, .int p1_cells]))]) (some (.int r0)) := by
  refine ct_of (cc := b_Shift_isBetterThan) (maxL := 6) (ret := (some .boolean)) (lv := [(0, .ref q_o), (1, .ref q_p1)]) (by decide) rfl rfl rfl ?_
  intro p e s m args below meth c A Q H locs hx hb hml hown hts hin hA hK hN hP hD hS RT ls hl
  unfold p_Shift_isBetterThan at h
  refine lv_aload_n hx hb d_Shift_isBetterThan_0 rfl (lv_at hl 0 rfl) ?_
  refine va_get (D := (dC, dI)) (ci := 5) (v := .int o_differences) (C := R_Shift) (T := F_Shift) (N := 4) hx hb hts i_Shift hown hK hP 0 rfl rfl 2 (by decide) (hts _ k_43) (fun _ h9 => h9) rfl d_Shift_isBetterThan_1 ?_
  refine lv_i2l hx hb d_Shift_isBetterThan_4 rfl ?_
  refine lv_aload_n hx hb d_Shift_isBetterThan_5 rfl (lv_at hl 1 rfl) ?_
  refine va_get (D := (dC, dI)) (ci := 5) (v := .int p1_cells) (C := R_Shift) (T := F_Shift) (N := 4) hx hb hts i_Shift hown hK hP 1 rfl rfl 3 (by decide) (hts _ k_45) (fun _ h9 => h9) rfl d_Shift_isBetterThan_6 ?_
  refine lv_i2l hx hb d_Shift_isBetterThan_9 rfl ?_
  refine lv_lmul hx hb d_Shift_isBetterThan_10 ?_
  refine lv_lstore_n (lv' := [(2, .long ((o_differences.toInt64) * (p1_cells.toInt64))), (0, .ref q_o), (1, .ref q_p1)]) hx hb d_Shift_isBetterThan_11 rfl hl (by decide) rfl (fun ls hl => ?_)
  refine lv_aload_n hx hb d_Shift_isBetterThan_12 rfl (lv_at hl 2 rfl) ?_
  refine va_get (D := (dC, dI)) (ci := 5) (v := .int p1_differences) (C := R_Shift) (T := F_Shift) (N := 4) hx hb hts i_Shift hown hK hP 1 rfl rfl 2 (by decide) (hts _ k_43) (fun _ h9 => h9) rfl d_Shift_isBetterThan_13 ?_
  refine lv_i2l hx hb d_Shift_isBetterThan_16 rfl ?_
  refine lv_aload_n hx hb d_Shift_isBetterThan_17 rfl (lv_at hl 1 rfl) ?_
  refine va_get (D := (dC, dI)) (ci := 5) (v := .int o_cells) (C := R_Shift) (T := F_Shift) (N := 4) hx hb hts i_Shift hown hK hP 0 rfl rfl 3 (by decide) (hts _ k_45) (fun _ h9 => h9) rfl d_Shift_isBetterThan_18 ?_
  refine lv_i2l hx hb d_Shift_isBetterThan_21 rfl ?_
  refine lv_lmul hx hb d_Shift_isBetterThan_22 ?_
  refine lv_lstore (lv' := [(4, .long ((p1_differences.toInt64) * (o_cells.toInt64))), (2, .long ((o_differences.toInt64) * (p1_cells.toInt64))), (0, .ref q_o), (1, .ref q_p1)]) hx hb d_Shift_isBetterThan_23 hl (by decide) rfl (fun ls hl => ?_)
  refine lv_lload_n hx hb d_Shift_isBetterThan_25 rfl (lv_at hl 1 rfl) ?_
  refine lv_lload hx hb d_Shift_isBetterThan_26 (lv_at hl 0 rfl) ?_
  refine W.lcmp hx hb d_Shift_isBetterThan_28 ?_
  refine lv_if_eq (tgt := 45) hx hb d_Shift_isBetterThan_29 (by decide) (fun hc => ?_) (fun hc => ?_)
  · have h := pu_t hc h
    refine lv_aload_n hx hb d_Shift_isBetterThan_45 rfl (lv_at hl 2 rfl) ?_
    obtain ⟨v1, hu1, h⟩ := pu_bd h
    refine cc_V (As := []) (rest := []) ⟨hx, hb, hml, hown, hts⟩ (c_Shift_together l dC dI cI cJ cZ q_o o_across o_down o_differences o_cells v1 hu1) (cwV 0 hts (gV k_429 k_431 kp_14 k_3 k_432 rfl) rfl rfl rfl hdV_Shift_together ⟨Nat.le_of_ble_eq_true rfl, Nat.le_of_ble_eq_true rfl⟩) hK hN hP hD hS hA [0] [1] (w0 := [(q_o, .inr (5, [.int o_across, .int o_down, .int o_differences, .int o_cells]))]) (wr := [(q_p1, .inr (5, [.int p1_across, .int p1_down, .int p1_differences, .int p1_cells]))]) rfl rfl (by decide) (by decide) (by decide) 5 rfl rfl rfl hl.1 rfl (Nat.le_of_ble_eq_true rfl) d_Shift_isBetterThan_46 ⟨Nat.le_of_ble_eq_true rfl, Nat.le_of_ble_eq_true rfl⟩ (fun w1 H locs hw1 hP hD hS => ?_)
    subst hw1
    have hP : va_P (dC, dI) vwCl [(q_p1, .inr (5, [.int p1_across, .int p1_down, .int p1_differences, .int p1_cells])), (q_o, .inr (5, [.int o_across, .int o_down, .int o_differences, .int o_cells]))] H := hP
    have hD : va_D A [(q_p1, .inr (5, [.int p1_across, .int p1_down, .int p1_differences, .int p1_cells])), (q_o, .inr (5, [.int o_across, .int o_down, .int o_differences, .int o_cells]))] := hD
    refine lv_aload_n hx hb d_Shift_isBetterThan_49 rfl (lv_at hl 3 rfl) ?_
    obtain ⟨v2, hu2, h⟩ := pu_bd h
    refine cc_V (As := []) (rest := [.int v1]) ⟨hx, hb, hml, hown, hts⟩ (c_Shift_together l dC dI cI cJ cZ q_p1 p1_across p1_down p1_differences p1_cells v2 hu2) (cwV 0 hts (gV k_429 k_431 kp_14 k_3 k_432 rfl) rfl rfl rfl hdV_Shift_together ⟨Nat.le_of_ble_eq_true rfl, Nat.le_of_ble_eq_true rfl⟩) hK hN hP hD hS hA [0] [1] (w0 := [(q_p1, .inr (5, [.int p1_across, .int p1_down, .int p1_differences, .int p1_cells]))]) (wr := [(q_o, .inr (5, [.int o_across, .int o_down, .int o_differences, .int o_cells]))]) rfl rfl (by decide) (by decide) (by decide) 5 rfl rfl rfl hl.1 rfl (Nat.le_of_ble_eq_true rfl) d_Shift_isBetterThan_50 ⟨Nat.le_of_ble_eq_true rfl, Nat.le_of_ble_eq_true rfl⟩ (fun w1 H locs hw1 hP hD hS => ?_)
    subst hw1
    have hP : va_P (dC, dI) vwCl [(q_o, .inr (5, [.int o_across, .int o_down, .int o_differences, .int o_cells])), (q_p1, .inr (5, [.int p1_across, .int p1_down, .int p1_differences, .int p1_cells]))] H := hP
    have hD : va_D A [(q_o, .inr (5, [.int o_across, .int o_down, .int o_differences, .int o_cells])), (q_p1, .inr (5, [.int p1_across, .int p1_down, .int p1_differences, .int p1_cells]))] := hD
    refine lv_icmp_eq (tgt := 73) hx hb d_Shift_isBetterThan_53 (by decide) (fun hc => ?_) (fun hc => ?_)
    · have h := pu_t hc h
      refine lv_aload_n hx hb d_Shift_isBetterThan_73 rfl (lv_at hl 2 rfl) ?_
      refine va_get (D := (dC, dI)) (ci := 5) (v := .int o_across) (C := R_Shift) (T := F_Shift) (N := 4) hx hb hts i_Shift hown hK hP 0 rfl rfl 0 (by decide) (hts _ k_39) (fun _ h9 => h9) rfl d_Shift_isBetterThan_74 ?_
      refine lv_aload_n hx hb d_Shift_isBetterThan_77 rfl (lv_at hl 3 rfl) ?_
      refine va_get (D := (dC, dI)) (ci := 5) (v := .int p1_across) (C := R_Shift) (T := F_Shift) (N := 4) hx hb hts i_Shift hown hK hP 1 rfl rfl 0 (by decide) (hts _ k_39) (fun _ h9 => h9) rfl d_Shift_isBetterThan_78 ?_
      refine lv_icmp_eq (tgt := 101) hx hb d_Shift_isBetterThan_81 (by decide) (fun hc => ?_) (fun hc => ?_)
      · have h := pu_t hc h
        refine lv_aload_n hx hb d_Shift_isBetterThan_101 rfl (lv_at hl 2 rfl) ?_
        refine va_get (D := (dC, dI)) (ci := 5) (v := .int o_down) (C := R_Shift) (T := F_Shift) (N := 4) hx hb hts i_Shift hown hK hP 0 rfl rfl 1 (by decide) (hts _ k_41) (fun _ h9 => h9) rfl d_Shift_isBetterThan_102 ?_
        refine lv_aload_n hx hb d_Shift_isBetterThan_105 rfl (lv_at hl 3 rfl) ?_
        refine va_get (D := (dC, dI)) (ci := 5) (v := .int p1_down) (C := R_Shift) (T := F_Shift) (N := 4) hx hb hts i_Shift hown hK hP 1 rfl rfl 1 (by decide) (hts _ k_41) (fun _ h9 => h9) rfl d_Shift_isBetterThan_106 ?_
        refine lv_icmp_ge (tgt := 116) hx hb d_Shift_isBetterThan_109 (by decide) (fun hc => ?_) (fun hc => ?_)
        · have h := pu_t hc h
          refine lv_iconst (v := 0) hx hb d_Shift_isBetterThan_116 (by decide) ?_
          cases h
          refine W.widen (k := 0) (n := 0) (Nat.le_of_ble_eq_true rfl) (Nat.le_of_ble_eq_true rfl) ?_
          exact RT 117 ls H locs _ d_Shift_isBetterThan_117 (Or.inr (Or.inr (Or.inr ⟨rfl, _, rfl, rfl⟩))) rfl (hP.sub [0, 1] rfl) (hD.sub [0, 1] (by decide) rfl) hS
        · have h := pu_f hc h
          refine lv_iconst (v := 1) hx hb d_Shift_isBetterThan_112 (by decide) ?_
          refine lv_goto (tgt := 117) hx hb d_Shift_isBetterThan_113 (by decide) ?_
          cases h
          refine W.widen (k := 0) (n := 0) (Nat.le_of_ble_eq_true rfl) (Nat.le_of_ble_eq_true rfl) ?_
          exact RT 117 ls H locs _ d_Shift_isBetterThan_117 (Or.inr (Or.inr (Or.inr ⟨rfl, _, rfl, rfl⟩))) rfl (hP.sub [0, 1] rfl) (hD.sub [0, 1] (by decide) rfl) hS
      · have h := pu_f hc h
        refine lv_aload_n hx hb d_Shift_isBetterThan_84 rfl (lv_at hl 2 rfl) ?_
        refine va_get (D := (dC, dI)) (ci := 5) (v := .int o_across) (C := R_Shift) (T := F_Shift) (N := 4) hx hb hts i_Shift hown hK hP 0 rfl rfl 0 (by decide) (hts _ k_39) (fun _ h9 => h9) rfl d_Shift_isBetterThan_85 ?_
        refine lv_aload_n hx hb d_Shift_isBetterThan_88 rfl (lv_at hl 3 rfl) ?_
        refine va_get (D := (dC, dI)) (ci := 5) (v := .int p1_across) (C := R_Shift) (T := F_Shift) (N := 4) hx hb hts i_Shift hown hK hP 1 rfl rfl 0 (by decide) (hts _ k_39) (fun _ h9 => h9) rfl d_Shift_isBetterThan_89 ?_
        refine lv_icmp_ge (tgt := 99) hx hb d_Shift_isBetterThan_92 (by decide) (fun hc => ?_) (fun hc => ?_)
        · have h := pu_t hc h
          refine lv_iconst (v := 0) hx hb d_Shift_isBetterThan_99 (by decide) ?_
          cases h
          refine W.widen (k := 0) (n := 0) (Nat.le_of_ble_eq_true rfl) (Nat.le_of_ble_eq_true rfl) ?_
          exact RT 100 ls H locs _ d_Shift_isBetterThan_100 (Or.inr (Or.inr (Or.inr ⟨rfl, _, rfl, rfl⟩))) rfl (hP.sub [0, 1] rfl) (hD.sub [0, 1] (by decide) rfl) hS
        · have h := pu_f hc h
          refine lv_iconst (v := 1) hx hb d_Shift_isBetterThan_95 (by decide) ?_
          refine lv_goto (tgt := 100) hx hb d_Shift_isBetterThan_96 (by decide) ?_
          cases h
          refine W.widen (k := 0) (n := 0) (Nat.le_of_ble_eq_true rfl) (Nat.le_of_ble_eq_true rfl) ?_
          exact RT 100 ls H locs _ d_Shift_isBetterThan_100 (Or.inr (Or.inr (Or.inr ⟨rfl, _, rfl, rfl⟩))) rfl (hP.sub [0, 1] rfl) (hD.sub [0, 1] (by decide) rfl) hS
    · have h := pu_f hc h
      refine lv_aload_n hx hb d_Shift_isBetterThan_56 rfl (lv_at hl 2 rfl) ?_
      obtain ⟨v3, hu3, h⟩ := pu_bd h
      refine cc_V (As := []) (rest := []) ⟨hx, hb, hml, hown, hts⟩ (c_Shift_together l dC dI cI cJ cZ q_o o_across o_down o_differences o_cells v3 hu3) (cwV 0 hts (gV k_429 k_431 kp_14 k_3 k_432 rfl) rfl rfl rfl hdV_Shift_together ⟨Nat.le_of_ble_eq_true rfl, Nat.le_of_ble_eq_true rfl⟩) hK hN hP hD hS hA [0] [1] (w0 := [(q_o, .inr (5, [.int o_across, .int o_down, .int o_differences, .int o_cells]))]) (wr := [(q_p1, .inr (5, [.int p1_across, .int p1_down, .int p1_differences, .int p1_cells]))]) rfl rfl (by decide) (by decide) (by decide) 5 rfl rfl rfl hl.1 rfl (Nat.le_of_ble_eq_true rfl) d_Shift_isBetterThan_57 ⟨Nat.le_of_ble_eq_true rfl, Nat.le_of_ble_eq_true rfl⟩ (fun w1 H locs hw1 hP hD hS => ?_)
      subst hw1
      have hP : va_P (dC, dI) vwCl [(q_p1, .inr (5, [.int p1_across, .int p1_down, .int p1_differences, .int p1_cells])), (q_o, .inr (5, [.int o_across, .int o_down, .int o_differences, .int o_cells]))] H := hP
      have hD : va_D A [(q_p1, .inr (5, [.int p1_across, .int p1_down, .int p1_differences, .int p1_cells])), (q_o, .inr (5, [.int o_across, .int o_down, .int o_differences, .int o_cells]))] := hD
      refine lv_aload_n hx hb d_Shift_isBetterThan_60 rfl (lv_at hl 3 rfl) ?_
      obtain ⟨v4, hu4, h⟩ := pu_bd h
      refine cc_V (As := []) (rest := [.int v3]) ⟨hx, hb, hml, hown, hts⟩ (c_Shift_together l dC dI cI cJ cZ q_p1 p1_across p1_down p1_differences p1_cells v4 hu4) (cwV 0 hts (gV k_429 k_431 kp_14 k_3 k_432 rfl) rfl rfl rfl hdV_Shift_together ⟨Nat.le_of_ble_eq_true rfl, Nat.le_of_ble_eq_true rfl⟩) hK hN hP hD hS hA [0] [1] (w0 := [(q_p1, .inr (5, [.int p1_across, .int p1_down, .int p1_differences, .int p1_cells]))]) (wr := [(q_o, .inr (5, [.int o_across, .int o_down, .int o_differences, .int o_cells]))]) rfl rfl (by decide) (by decide) (by decide) 5 rfl rfl rfl hl.1 rfl (Nat.le_of_ble_eq_true rfl) d_Shift_isBetterThan_61 ⟨Nat.le_of_ble_eq_true rfl, Nat.le_of_ble_eq_true rfl⟩ (fun w1 H locs hw1 hP hD hS => ?_)
      subst hw1
      have hP : va_P (dC, dI) vwCl [(q_o, .inr (5, [.int o_across, .int o_down, .int o_differences, .int o_cells])), (q_p1, .inr (5, [.int p1_across, .int p1_down, .int p1_differences, .int p1_cells]))] H := hP
      have hD : va_D A [(q_o, .inr (5, [.int o_across, .int o_down, .int o_differences, .int o_cells])), (q_p1, .inr (5, [.int p1_across, .int p1_down, .int p1_differences, .int p1_cells]))] := hD
      refine lv_icmp_ge (tgt := 71) hx hb d_Shift_isBetterThan_64 (by decide) (fun hc => ?_) (fun hc => ?_)
      · have h := pu_t hc h
        refine lv_iconst (v := 0) hx hb d_Shift_isBetterThan_71 (by decide) ?_
        cases h
        refine W.widen (k := 0) (n := 0) (Nat.le_of_ble_eq_true rfl) (Nat.le_of_ble_eq_true rfl) ?_
        exact RT 72 ls H locs _ d_Shift_isBetterThan_72 (Or.inr (Or.inr (Or.inr ⟨rfl, _, rfl, rfl⟩))) rfl (hP.sub [0, 1] rfl) (hD.sub [0, 1] (by decide) rfl) hS
      · have h := pu_f hc h
        refine lv_iconst (v := 1) hx hb d_Shift_isBetterThan_67 (by decide) ?_
        refine lv_goto (tgt := 72) hx hb d_Shift_isBetterThan_68 (by decide) ?_
        cases h
        refine W.widen (k := 0) (n := 0) (Nat.le_of_ble_eq_true rfl) (Nat.le_of_ble_eq_true rfl) ?_
        exact RT 72 ls H locs _ d_Shift_isBetterThan_72 (Or.inr (Or.inr (Or.inr ⟨rfl, _, rfl, rfl⟩))) rfl (hP.sub [0, 1] rfl) (hD.sub [0, 1] (by decide) rfl) hS
  · have h := pu_f hc h
    refine lv_lload_n hx hb d_Shift_isBetterThan_32 rfl (lv_at hl 1 rfl) ?_
    refine lv_lload hx hb d_Shift_isBetterThan_33 (lv_at hl 0 rfl) ?_
    refine W.lcmp hx hb d_Shift_isBetterThan_35 ?_
    refine lv_if_ge (tgt := 43) hx hb d_Shift_isBetterThan_36 (by decide) (fun hc => ?_) (fun hc => ?_)
    · have h := pu_t hc h
      refine lv_iconst (v := 0) hx hb d_Shift_isBetterThan_43 (by decide) ?_
      cases h
      refine W.widen (k := 0) (n := 0) (Nat.le_of_ble_eq_true rfl) (Nat.le_of_ble_eq_true rfl) ?_
      exact RT 44 ls H locs _ d_Shift_isBetterThan_44 (Or.inr (Or.inr (Or.inr ⟨rfl, _, rfl, rfl⟩))) rfl (hP.sub [0, 1] rfl) (hD.sub [0, 1] (by decide) rfl) hS
    · have h := pu_f hc h
      refine lv_iconst (v := 1) hx hb d_Shift_isBetterThan_39 (by decide) ?_
      refine lv_goto (tgt := 44) hx hb d_Shift_isBetterThan_40 (by decide) ?_
      cases h
      refine W.widen (k := 0) (n := 0) (Nat.le_of_ble_eq_true rfl) (Nat.le_of_ble_eq_true rfl) ?_
      exact RT 44 ls H locs _ d_Shift_isBetterThan_44 (Or.inr (Or.inr (Or.inr ⟨rfl, _, rfl, rfl⟩))) rfl (hP.sub [0, 1] rfl) (hD.sub [0, 1] (by decide) rfl) hS

noncomputable def p_Shift_become (o_across : Int32) (o_down : Int32) (o_differences : Int32) (o_cells : Int32) (p1_across : Int32) (p1_down : Int32) (p1_differences : Int32) (p1_cells : Int32) : Option (Int32 × Int32 × Int32 × Int32) :=
  some (p1_across, p1_down, p1_differences, p1_cells)
set_option maxHeartbeats 4000000 in
set_option maxRecDepth 100000 in
theorem c_Shift_become (l : Launch) (dC : Nat → ClassId) (dI : Nat → Nat → Nat) (cI cJ cZ : ClassId) (q_o q_p1 : Nat) (o_across : Int32) (o_down : Int32) (o_differences : Int32) (o_cells : Int32) (p1_across : Int32) (p1_down : Int32) (p1_differences : Int32) (p1_cells : Int32) (r0 : Int32) (r1 : Int32) (r2 : Int32) (r3 : Int32) (h : p_Shift_become o_across o_down o_differences o_cells p1_across p1_down p1_differences p1_cells = some (r0, r1, r2, r3)) : ct l y_Shift_become w_Shift_become rm_Shift_become (dC, dI) [(cI, .int), (cJ, .long), (cZ, .boolean)] [.ref q_o, .ref q_p1] [(q_o, .inr (5, [.int o_across, .int o_down, .int o_differences, .int o_cells])), (q_p1, .inr (5, [.int p1_across, .int p1_down, .int p1_differences, .int p1_cells]))] (fun w => w = [(q_o, .inr (5, [.int r0, .int r1, .int r2, .int r3])), (q_p1, .inr (5, [.int p1_across, .int p1_down, .int p1_differences, .int p1_cells]))]) none := by
  refine ct_of (cc := b_Shift_become) (maxL := 2) (ret := none) (lv := [(0, .ref q_o), (1, .ref q_p1)]) (by decide) rfl rfl rfl ?_
  intro p e s m args below meth c A Q H locs hx hb hml hown hts hin hA hK hN hP hD hS RT ls hl
  unfold p_Shift_become at h
  refine lv_aload_n hx hb d_Shift_become_0 rfl (lv_at hl 0 rfl) ?_
  refine lv_aload_n hx hb d_Shift_become_1 rfl (lv_at hl 1 rfl) ?_
  refine va_get (D := (dC, dI)) (ci := 5) (v := .int p1_across) (C := R_Shift) (T := F_Shift) (N := 4) hx hb hts i_Shift hown hK hP 1 rfl rfl 0 (by decide) (hts _ k_39) (fun _ h9 => h9) rfl d_Shift_become_2 ?_
  refine va_put (D := (dC, dI)) (ci := 5) (v := .int p1_across) (ty := .int) (C := R_Shift) (T := F_Shift) (N := 4) hx hb hts i_Shift t_Shift t_Shift_ok n_Shift hown hK hP hD hS 0 rfl rfl 0 (by decide) (hts _ k_39) (fun _ h9 => h9) rfl (by decide +kernel) rfl rfl (Nat.le_of_ble_eq_true rfl) d_Shift_become_5 (fun H locs hP hD hS => ?_)
  have hP : va_P (dC, dI) vwCl [(q_o, .inr (5, [.int p1_across, .int o_down, .int o_differences, .int o_cells])), (q_p1, .inr (5, [.int p1_across, .int p1_down, .int p1_differences, .int p1_cells]))] H := hP
  have hD : va_D A [(q_o, .inr (5, [.int p1_across, .int o_down, .int o_differences, .int o_cells])), (q_p1, .inr (5, [.int p1_across, .int p1_down, .int p1_differences, .int p1_cells]))] := hD
  refine lv_aload_n hx hb d_Shift_become_8 rfl (lv_at hl 0 rfl) ?_
  refine lv_aload_n hx hb d_Shift_become_9 rfl (lv_at hl 1 rfl) ?_
  refine va_get (D := (dC, dI)) (ci := 5) (v := .int p1_down) (C := R_Shift) (T := F_Shift) (N := 4) hx hb hts i_Shift hown hK hP 1 rfl rfl 1 (by decide) (hts _ k_41) (fun _ h9 => h9) rfl d_Shift_become_10 ?_
  refine va_put (D := (dC, dI)) (ci := 5) (v := .int p1_down) (ty := .int) (C := R_Shift) (T := F_Shift) (N := 4) hx hb hts i_Shift t_Shift t_Shift_ok n_Shift hown hK hP hD hS 0 rfl rfl 1 (by decide) (hts _ k_41) (fun _ h9 => h9) rfl (by decide +kernel) rfl rfl (Nat.le_of_ble_eq_true rfl) d_Shift_become_13 (fun H locs hP hD hS => ?_)
  have hP : va_P (dC, dI) vwCl [(q_o, .inr (5, [.int p1_across, .int p1_down, .int o_differences, .int o_cells])), (q_p1, .inr (5, [.int p1_across, .int p1_down, .int p1_differences, .int p1_cells]))] H := hP
  have hD : va_D A [(q_o, .inr (5, [.int p1_across, .int p1_down, .int o_differences, .int o_cells])), (q_p1, .inr (5, [.int p1_across, .int p1_down, .int p1_differences, .int p1_cells]))] := hD
  refine lv_aload_n hx hb d_Shift_become_16 rfl (lv_at hl 0 rfl) ?_
  refine lv_aload_n hx hb d_Shift_become_17 rfl (lv_at hl 1 rfl) ?_
  refine va_get (D := (dC, dI)) (ci := 5) (v := .int p1_differences) (C := R_Shift) (T := F_Shift) (N := 4) hx hb hts i_Shift hown hK hP 1 rfl rfl 2 (by decide) (hts _ k_43) (fun _ h9 => h9) rfl d_Shift_become_18 ?_
  refine va_put (D := (dC, dI)) (ci := 5) (v := .int p1_differences) (ty := .int) (C := R_Shift) (T := F_Shift) (N := 4) hx hb hts i_Shift t_Shift t_Shift_ok n_Shift hown hK hP hD hS 0 rfl rfl 2 (by decide) (hts _ k_43) (fun _ h9 => h9) rfl (by decide +kernel) rfl rfl (Nat.le_of_ble_eq_true rfl) d_Shift_become_21 (fun H locs hP hD hS => ?_)
  have hP : va_P (dC, dI) vwCl [(q_o, .inr (5, [.int p1_across, .int p1_down, .int p1_differences, .int o_cells])), (q_p1, .inr (5, [.int p1_across, .int p1_down, .int p1_differences, .int p1_cells]))] H := hP
  have hD : va_D A [(q_o, .inr (5, [.int p1_across, .int p1_down, .int p1_differences, .int o_cells])), (q_p1, .inr (5, [.int p1_across, .int p1_down, .int p1_differences, .int p1_cells]))] := hD
  refine lv_aload_n hx hb d_Shift_become_24 rfl (lv_at hl 0 rfl) ?_
  refine lv_aload_n hx hb d_Shift_become_25 rfl (lv_at hl 1 rfl) ?_
  refine va_get (D := (dC, dI)) (ci := 5) (v := .int p1_cells) (C := R_Shift) (T := F_Shift) (N := 4) hx hb hts i_Shift hown hK hP 1 rfl rfl 3 (by decide) (hts _ k_45) (fun _ h9 => h9) rfl d_Shift_become_26 ?_
  refine va_put (D := (dC, dI)) (ci := 5) (v := .int p1_cells) (ty := .int) (C := R_Shift) (T := F_Shift) (N := 4) hx hb hts i_Shift t_Shift t_Shift_ok n_Shift hown hK hP hD hS 0 rfl rfl 3 (by decide) (hts _ k_45) (fun _ h9 => h9) rfl (by decide +kernel) rfl rfl (Nat.le_of_ble_eq_true rfl) d_Shift_become_29 (fun H locs hP hD hS => ?_)
  have hP : va_P (dC, dI) vwCl [(q_o, .inr (5, [.int p1_across, .int p1_down, .int p1_differences, .int p1_cells])), (q_p1, .inr (5, [.int p1_across, .int p1_down, .int p1_differences, .int p1_cells]))] H := hP
  have hD : va_D A [(q_o, .inr (5, [.int p1_across, .int p1_down, .int p1_differences, .int p1_cells])), (q_p1, .inr (5, [.int p1_across, .int p1_down, .int p1_differences, .int p1_cells]))] := hD
  cases h
  refine W.widen (k := 0) (n := 0) (Nat.le_of_ble_eq_true rfl) (Nat.le_of_ble_eq_true rfl) ?_
  exact RT 32 ls H locs _ d_Shift_become_32 (Or.inl ⟨rfl, rfl⟩) rfl (hP.sub [0, 1] rfl) (hD.sub [0, 1] (by decide) rfl) hS
