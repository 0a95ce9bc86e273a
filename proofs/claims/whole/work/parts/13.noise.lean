noncomputable def p_Noise_init_L3 (a1 : Int32) : (Int32 × (Nat → Int32) × (Nat → Int32)) → Option ((Int32 × (Nat → Int32) × (Nat → Int32)) ⊕ (Int32 × (Nat → Int32) × (Nat → Int32))) := fun ((x2_4, new12_f_5, new19_f_6) : Int32 × (Nat → Int32) × (Nat → Int32)) =>
  (if a1 ≤ x2_4 then some (.inr (x2_4, new12_f_5, new19_f_6)) else pu_gd (vp_in x2_4 (a1.toNatClampNeg)) (pu_gd (vp_in x2_4 (a1.toNatClampNeg)) (some (.inl ((x2_4 + 1), (upd new12_f_5 x2_4.toNatClampNeg (-1)), (upd new19_f_6 x2_4.toNatClampNeg (-1)))))))
noncomputable def p_Noise_init (a1 : Int32) : Option (Int32 × Int32 × Int32 × Nat × (Nat → Int32) × Nat × (Nat → Int32)) :=
  pu_gd (¬ a1 < 0 ∧ a1.toNatClampNeg ≤ 576) (pu_gd (¬ a1 < 0 ∧ a1.toNatClampNeg ≤ 576) ((pu_loop (p_Noise_init_L3 a1) (0, (fun _ => 0), (fun _ => 0))).bind (fun ((y2_7, z8, z9) : Int32 × (Nat → Int32) × (Nat → Int32)) => some (10, 0, 0, (a1.toNatClampNeg), z8, (a1.toNatClampNeg), z9))))
set_option maxHeartbeats 4000000 in
set_option maxRecDepth 100000 in
theorem c_Noise_init (l : Launch) (dC : Nat → ClassId) (dI : Nat → Nat → Nat) (cI cJ cZ : ClassId) (q_o : Nat) (a1 : Int32) (r0 : Int32) (r1 : Int32) (r2 : Int32) (r3 : Nat) (r4 : Nat → Int32) (r5 : Nat) (r6 : Nat → Int32) (h : p_Noise_init a1 = some (r0, r1, r2, r3, r4, r5, r6)) : ct l y_Noise_init w_Noise_init rm_Noise_init (dC, dI) [(cI, .int), (cJ, .long), (cZ, .boolean)] [.ref q_o, .int a1] [(q_o, .inr (4, [.null, .null, .int 0, .int 0, .int 0]))] (fun w => ∃ (q_o_least q_o_greatest : Nat), w = [(q_o, .inr (4, [.ref q_o_least, .ref q_o_greatest, .int r0, .int r1, .int r2])), (q_o_least, .inl (cI, r3, .inl r4)), (q_o_greatest, .inl (cI, r5, .inl r6))]) none := by
  refine ct_of (cc := b_Noise_init) (maxL := 3) (ret := none) (lv := [(0, .ref q_o), (1, .int a1)]) (by decide) rfl rfl rfl ?_
  intro p e s m args below meth c A Q H locs hx hb hml hown hts hin hA hK hN hP hD hS RT ls hl
  unfold p_Noise_init at h
  refine lv_aload_n hx hb d_Noise_init_0 rfl (lv_at hl 0 rfl) ?_
  refine W.objInit hx hb hown (hts _ k_95) (hts _ k_22) (hts _ k_23) rfl (by rw [hml]; exact hl.1) rfl d_Noise_init_1 (Nat.le_of_ble_eq_true rfl) (Nat.le_of_ble_eq_true rfl) ?_
  refine W.eq (g2 := F0 m 4 ls []) rfl ?_
  refine lv_aload_n hx hb d_Noise_init_4 rfl (lv_at hl 0 rfl) ?_
  refine lv_bipush (v := 10) hx hb d_Noise_init_5 (by decide) ?_
  refine va_put (D := (dC, dI)) (ci := 4) (v := .int 10) (ty := .int) (C := R_Noise) (T := F_Noise) (N := 5) hx hb hts i_Noise t_Noise t_Noise_ok n_Noise hown hK hP hD hS 0 rfl rfl 2 (by decide) (hts _ k_98) (fun _ h9 => h9) rfl (by decide +kernel) rfl rfl (Nat.le_of_ble_eq_true rfl) d_Noise_init_7 (fun H locs hP hD hS => ?_)
  have hP : va_P (dC, dI) vwCl [(q_o, .inr (4, [.null, .null, .int 10, .int 0, .int 0]))] H := hP
  have hD : va_D A [(q_o, .inr (4, [.null, .null, .int 10, .int 0, .int 0]))] := hD
  refine lv_aload_n hx hb d_Noise_init_10 rfl (lv_at hl 0 rfl) ?_
  refine lv_iload_n hx hb d_Noise_init_11 rfl (lv_at hl 1 rfl) ?_
  obtain ⟨hg, h⟩ := pu_g h
  refine va_newa (atype := .int) (ty := .int) (a0 := (a1.toNatClampNeg, .inl (fun _ => 0))) (N' := a1.toNatClampNeg) hx hb (hts _ k_55) rfl hK hP hD hS hA (fun _ => rfl) hg.1 rfl (Nat.le_trans (Nat.mul_le_mul_right 4 hg.2) (by decide)) (by decide) (Nat.le_trans (Nat.add_le_add_left hg.2 _) (by decide)) d_Noise_init_12 (fun q1 cA H hK2 hP hD hS => ?_)
  obtain rfl : cI = cA := va_RA_int (hK.2 0 (cI, .int) rfl).2 (hK2.2 3 (cA, .int) rfl).2
  refine W.widen (k := 1) (n := 576) (Nat.le_refl _) (Nat.add_le_add_left hg.2 _) ?_
  have hP : va_P (dC, dI) vwCl [(q_o, .inr (4, [.null, .null, .int 10, .int 0, .int 0])), (q1, .inl (cI, (a1.toNatClampNeg), .inl (fun _ => 0)))] H := hP
  have hD : va_D A [(q_o, .inr (4, [.null, .null, .int 10, .int 0, .int 0])), (q1, .inl (cI, (a1.toNatClampNeg), .inl (fun _ => 0)))] := hD
  refine va_putF (D := (dC, dI)) (ci := 4) (v := .ref q1) (ty := (.array .int)) (C := R_Noise) (T := F_Noise) (N := 5) hx hb hts i_Noise t_Noise t_Noise_ok n_Noise hown hK hP hD hS 0 rfl rfl 0 (by decide) (hts _ k_96) (fun _ h9 => h9) rfl hin rfl (by decide +kernel) rfl rfl (Nat.le_of_ble_eq_true rfl) d_Noise_init_14 (fun H locs hP hD hS => ?_)
  have hP : va_P (dC, dI) vwCl [(q_o, .inr (4, [.ref q1, .null, .int 10, .int 0, .int 0])), (q1, .inl (cI, (a1.toNatClampNeg), .inl (fun _ => 0)))] H := hP
  have hD : va_D A [(q_o, .inr (4, [.ref q1, .null, .int 10, .int 0, .int 0])), (q1, .inl (cI, (a1.toNatClampNeg), .inl (fun _ => 0)))] := hD
  refine lv_aload_n hx hb d_Noise_init_17 rfl (lv_at hl 0 rfl) ?_
  refine lv_iload_n hx hb d_Noise_init_18 rfl (lv_at hl 1 rfl) ?_
  obtain ⟨hg, h⟩ := pu_g h
  refine va_newa (atype := .int) (ty := .int) (a0 := (a1.toNatClampNeg, .inl (fun _ => 0))) (N' := a1.toNatClampNeg) hx hb (hts _ k_55) rfl hK hP hD hS hA (fun _ => rfl) hg.1 rfl (Nat.le_trans (Nat.mul_le_mul_right 4 hg.2) (by decide)) (by decide) (Nat.le_trans (Nat.add_le_add_left hg.2 _) (by decide)) d_Noise_init_19 (fun q2 cA H hK2 hP hD hS => ?_)
  obtain rfl : cI = cA := va_RA_int (hK.2 0 (cI, .int) rfl).2 (hK2.2 3 (cA, .int) rfl).2
  refine W.widen (k := 2) (n := 1152) (Nat.le_refl _) (Nat.add_le_add_left hg.2 _) ?_
  have hP : va_P (dC, dI) vwCl [(q_o, .inr (4, [.ref q1, .null, .int 10, .int 0, .int 0])), (q1, .inl (cI, (a1.toNatClampNeg), .inl (fun _ => 0))), (q2, .inl (cI, (a1.toNatClampNeg), .inl (fun _ => 0)))] H := hP
  have hD : va_D A [(q_o, .inr (4, [.ref q1, .null, .int 10, .int 0, .int 0])), (q1, .inl (cI, (a1.toNatClampNeg), .inl (fun _ => 0))), (q2, .inl (cI, (a1.toNatClampNeg), .inl (fun _ => 0)))] := hD
  refine va_putF (D := (dC, dI)) (ci := 4) (v := .ref q2) (ty := (.array .int)) (C := R_Noise) (T := F_Noise) (N := 5) hx hb hts i_Noise t_Noise t_Noise_ok n_Noise hown hK hP hD hS 0 rfl rfl 1 (by decide) (hts _ k_97) (fun _ h9 => h9) rfl hin rfl (by decide +kernel) rfl rfl (Nat.le_of_ble_eq_true rfl) d_Noise_init_21 (fun H locs hP hD hS => ?_)
  have hP : va_P (dC, dI) vwCl [(q_o, .inr (4, [.ref q1, .ref q2, .int 10, .int 0, .int 0])), (q1, .inl (cI, (a1.toNatClampNeg), .inl (fun _ => 0))), (q2, .inl (cI, (a1.toNatClampNeg), .inl (fun _ => 0)))] H := hP
  have hD : va_D A [(q_o, .inr (4, [.ref q1, .ref q2, .int 10, .int 0, .int 0])), (q1, .inl (cI, (a1.toNatClampNeg), .inl (fun _ => 0))), (q2, .inl (cI, (a1.toNatClampNeg), .inl (fun _ => 0)))] := hD
  refine lv_iconst (v := 0) hx hb d_Noise_init_24 (by decide) ?_
  refine lv_istore_n (lv' := [(2, .int 0), (0, .ref q_o), (1, .int a1)]) hx hb d_Noise_init_25 rfl hl (by decide) rfl (fun ls hl => ?_)
  obtain ⟨e_3, he_3, hx_3⟩ := pu_bd h
  obtain ⟨n_3, hn_3⟩ := pu_loop_it he_3
  have K_3 : ∀ (y2_7 : Int32) (z8 : Nat → Int32) (z9 : Nat → Int32) (H : Heap) (locs : List Loc) (ls : Array Slot), e_3 = (y2_7, z8, z9) → lv_has ls 3 [(2, .int y2_7), (0, .ref q_o), (1, .int a1)] → va_P (dC, dI) vwCl [(q_o, .inr (4, [.ref q1, .ref q2, .int 10, .int 0, .int 0])), (q1, .inl (cI, (a1.toNatClampNeg), .inl z8)), (q2, .inl (cI, (a1.toNatClampNeg), .inl z9))] H → va_D A [(q_o, .inr (4, [.ref q1, .ref q2, .int 10, .int 0, .int 0])), (q1, .inl (cI, (a1.toNatClampNeg), .inl z8)), (q2, .inl (cI, (a1.toNatClampNeg), .inl z9))] → va_S A s.heap H locs → W p l e rm_Noise_init s m args below meth c H locs 2 1152 Q (F0 m 51 ls []) := by
    intro y2_7 z8 z9 H locs ls he hl hP hD hS
    have h := hx_3
    rw [he] at h
    try dsimp only at h
    cases h
    refine W.widen (k := 2) (n := 1152) (Nat.le_of_ble_eq_true rfl) (Nat.le_of_ble_eq_true rfl) ?_
    exact RT 51 ls H locs _ d_Noise_init_51 (Or.inl ⟨rfl, rfl⟩) ⟨q1, q2, rfl⟩ (hP.sub [0, 1, 2] rfl) (hD.sub [0, 1, 2] (by decide) rfl) hS
  have L_3 : ∀ (n : Nat) (x2_4 : Int32) (new12_f_5 : Nat → Int32) (new19_f_6 : Nat → Int32) (H : Heap) (locs : List Loc) (ls : Array Slot), pu_it (p_Noise_init_L3 a1) n (x2_4, new12_f_5, new19_f_6) = some e_3 → lv_has ls 3 [(2, .int x2_4), (0, .ref q_o), (1, .int a1)] → va_P (dC, dI) vwCl [(q_o, .inr (4, [.ref q1, .ref q2, .int 10, .int 0, .int 0])), (q1, .inl (cI, (a1.toNatClampNeg), .inl new12_f_5)), (q2, .inl (cI, (a1.toNatClampNeg), .inl new19_f_6))] H → va_D A [(q_o, .inr (4, [.ref q1, .ref q2, .int 10, .int 0, .int 0])), (q1, .inl (cI, (a1.toNatClampNeg), .inl new12_f_5)), (q2, .inl (cI, (a1.toNatClampNeg), .inl new19_f_6))] → va_S A s.heap H locs → W p l e rm_Noise_init s m args below meth c H locs 2 1152 Q (F0 m 26 ls []) := by
    intro n
    induction n with
    | zero => intro x2_4 new12_f_5 new19_f_6 H locs ls hn; exact (pu_it_0 hn).elim
    | succ n ih =>
      intro x2_4 new12_f_5 new19_f_6 H locs ls hn hl hP hD hS
      obtain ⟨r_3, h, hr_3⟩ := pu_it_succ hn
      unfold p_Noise_init_L3 at h
      try dsimp only at h
      refine lv_iload_n hx hb d_Noise_init_26 rfl (lv_at hl 0 rfl) ?_
      refine lv_iload_n hx hb d_Noise_init_27 rfl (lv_at hl 2 rfl) ?_
      refine lv_icmp_ge (tgt := 51) hx hb d_Noise_init_28 (by decide) (fun hc => ?_) (fun hc => ?_)
      · have h := pu_t hc h
        cases h
        exact K_3 x2_4 new12_f_5 new19_f_6 H locs ls hr_3.symm (lv_sub hl [0, 1, 2] rfl) (hP.sub [0, 1, 2] rfl) (hD.sub [0, 1, 2] (by decide) rfl) hS
      · have h := pu_f hc h
        refine lv_aload_n hx hb d_Noise_init_31 rfl (lv_at hl 1 rfl) ?_
        refine va_get (D := (dC, dI)) (ci := 4) (v := .ref q1) (C := R_Noise) (T := F_Noise) (N := 5) hx hb hts i_Noise hown hK hP 0 rfl rfl 0 (by decide) (hts _ k_96) (fun _ h9 => h9) rfl d_Noise_init_32 ?_
        refine lv_iload_n hx hb d_Noise_init_35 rfl (lv_at hl 0 rfl) ?_
        refine lv_iconst (v := (-1)) hx hb d_Noise_init_36 (by decide) ?_
        obtain ⟨hg, h⟩ := pu_g h
        refine va_iast hx hb hK hP hD hS 1 0 rfl rfl hg d_Noise_init_37 (fun H locs hP hD hS => ?_)
        have hP : va_P (dC, dI) vwCl [(q_o, .inr (4, [.ref q1, .ref q2, .int 10, .int 0, .int 0])), (q1, .inl (cI, (a1.toNatClampNeg), .inl (upd new12_f_5 x2_4.toNatClampNeg (-1)))), (q2, .inl (cI, (a1.toNatClampNeg), .inl new19_f_6))] H := hP
        have hD : va_D A [(q_o, .inr (4, [.ref q1, .ref q2, .int 10, .int 0, .int 0])), (q1, .inl (cI, (a1.toNatClampNeg), .inl (upd new12_f_5 x2_4.toNatClampNeg (-1)))), (q2, .inl (cI, (a1.toNatClampNeg), .inl new19_f_6))] := hD
        refine lv_aload_n hx hb d_Noise_init_38 rfl (lv_at hl 1 rfl) ?_
        refine va_get (D := (dC, dI)) (ci := 4) (v := .ref q2) (C := R_Noise) (T := F_Noise) (N := 5) hx hb hts i_Noise hown hK hP 0 rfl rfl 1 (by decide) (hts _ k_97) (fun _ h9 => h9) rfl d_Noise_init_39 ?_
        refine lv_iload_n hx hb d_Noise_init_42 rfl (lv_at hl 0 rfl) ?_
        refine lv_iconst (v := (-1)) hx hb d_Noise_init_43 (by decide) ?_
        obtain ⟨hg, h⟩ := pu_g h
        refine va_iast hx hb hK hP hD hS 2 0 rfl rfl hg d_Noise_init_44 (fun H locs hP hD hS => ?_)
        have hP : va_P (dC, dI) vwCl [(q_o, .inr (4, [.ref q1, .ref q2, .int 10, .int 0, .int 0])), (q1, .inl (cI, (a1.toNatClampNeg), .inl (upd new12_f_5 x2_4.toNatClampNeg (-1)))), (q2, .inl (cI, (a1.toNatClampNeg), .inl (upd new19_f_6 x2_4.toNatClampNeg (-1))))] H := hP
        have hD : va_D A [(q_o, .inr (4, [.ref q1, .ref q2, .int 10, .int 0, .int 0])), (q1, .inl (cI, (a1.toNatClampNeg), .inl (upd new12_f_5 x2_4.toNatClampNeg (-1)))), (q2, .inl (cI, (a1.toNatClampNeg), .inl (upd new19_f_6 x2_4.toNatClampNeg (-1))))] := hD
        refine lv_iinc (v := (x2_4 + 1)) (lv' := [(2, .int (x2_4 + 1)), (0, .ref q_o), (1, .int a1)]) hx hb d_Noise_init_45 hl (k := 0) rfl rfl (by decide) rfl (fun ls hl => ?_)
        refine lv_goto (tgt := 26) hx hb d_Noise_init_48 (by decide) ?_
        cases h
        exact ih (x2_4 + 1) (upd new12_f_5 x2_4.toNatClampNeg (-1)) (upd new19_f_6 x2_4.toNatClampNeg (-1)) H locs ls hr_3 (lv_sub hl [0, 1, 2] rfl) (hP.sub [0, 1, 2] rfl) (hD.sub [0, 1, 2] (by decide) rfl) hS
  exact L_3 n_3 0 (fun _ => 0) (fun _ => 0) H locs ls hn_3 hl hP hD hS

noncomputable def p_Noise_tell (a1 : Int32) (a2 : Int32) (a3 : Int32) (o_floor : Int32) (o_told : Int32) (o_beyondFloor : Int32) (o_least_n : Nat) (o_least_f : Nat → Int32) (o_greatest_n : Nat) (o_greatest_f : Nat → Int32) : Option (Int32 × Int32 × (Nat → Int32) × (Nat → Int32)) :=
  pu_gd (vp_in a1 o_least_n) (((if (o_least_f a1.toNatClampNeg) = (-1) then some a2 else pu_gd (vp_in a1 o_least_n) (some (if a2 < (o_least_f a1.toNatClampNeg) then a2 else (o_least_f a1.toNatClampNeg))))).bind (fun (j1_2 : Int32) => pu_gd (vp_in a1 o_least_n) (pu_gd (vp_in a1 o_greatest_n) (pu_gd (vp_in a1 o_greatest_n) ((if (if 0 ≤ (a2 - a3) then (a2 - a3) else 0 - (a2 - a3)) ≤ o_floor then some ((o_told + 1), o_beyondFloor, (upd o_least_f a1.toNatClampNeg j1_2), (upd o_greatest_f a1.toNatClampNeg (if (o_greatest_f a1.toNatClampNeg) < a2 then a2 else (o_greatest_f a1.toNatClampNeg)))) else some ((o_told + 1), (o_beyondFloor + 1), (upd o_least_f a1.toNatClampNeg j1_2), (upd o_greatest_f a1.toNatClampNeg (if (o_greatest_f a1.toNatClampNeg) < a2 then a2 else (o_greatest_f a1.toNatClampNeg))))))))))
set_option maxHeartbeats 4000000 in
set_option maxRecDepth 100000 in
theorem c_Noise_tell (l : Launch) (dC : Nat → ClassId) (dI : Nat → Nat → Nat) (cI cJ cZ : ClassId) (q_o q_o_least q_o_greatest : Nat) (a1 : Int32) (a2 : Int32) (a3 : Int32) (o_floor : Int32) (o_told : Int32) (o_beyondFloor : Int32) (o_least_n : Nat) (o_least_f : Nat → Int32) (o_greatest_n : Nat) (o_greatest_f : Nat → Int32) (r0 : Int32) (r1 : Int32) (r2 : Nat → Int32) (r3 : Nat → Int32) (h : p_Noise_tell a1 a2 a3 o_floor o_told o_beyondFloor o_least_n o_least_f o_greatest_n o_greatest_f = some (r0, r1, r2, r3)) : ct l y_Noise_tell w_Noise_tell rm_Noise_tell (dC, dI) [(cI, .int), (cJ, .long), (cZ, .boolean)] [.ref q_o, .int a1, .int a2, .int a3] [(q_o, .inr (4, [.ref q_o_least, .ref q_o_greatest, .int o_floor, .int o_told, .int o_beyondFloor])), (q_o_least, .inl (cI, o_least_n, .inl o_least_f)), (q_o_greatest, .inl (cI, o_greatest_n, .inl o_greatest_f))] (fun w => w = [(q_o, .inr (4, [.ref q_o_least, .ref q_o_greatest, .int o_floor, .int r0, .int r1])), (q_o_least, .inl (cI, o_least_n, .inl r2)), (q_o_greatest, .inl (cI, o_greatest_n, .inl r3))]) none := by
  refine ct_of (cc := b_Noise_tell) (maxL := 4) (ret := none) (lv := [(0, .ref q_o), (1, .int a1), (2, .int a2), (3, .int a3)]) (by decide) rfl rfl rfl ?_
  intro p e s m args below meth c A Q H locs hx hb hml hown hts hin hA hK hN hP hD hS RT ls hl
  unfold p_Noise_tell at h
  refine lv_aload_n hx hb d_Noise_tell_0 rfl (lv_at hl 0 rfl) ?_
  refine va_get (D := (dC, dI)) (ci := 4) (v := .ref q_o_least) (C := R_Noise) (T := F_Noise) (N := 5) hx hb hts i_Noise hown hK hP 0 rfl rfl 0 (by decide) (hts _ k_96) (fun _ h9 => h9) rfl d_Noise_tell_1 ?_
  refine lv_iload_n hx hb d_Noise_tell_4 rfl (lv_at hl 1 rfl) ?_
  refine lv_aload_n hx hb d_Noise_tell_5 rfl (lv_at hl 0 rfl) ?_
  refine va_get (D := (dC, dI)) (ci := 4) (v := .ref q_o_least) (C := R_Noise) (T := F_Noise) (N := 5) hx hb hts i_Noise hown hK hP 0 rfl rfl 0 (by decide) (hts _ k_96) (fun _ h9 => h9) rfl d_Noise_tell_6 ?_
  refine lv_iload_n hx hb d_Noise_tell_9 rfl (lv_at hl 1 rfl) ?_
  obtain ⟨hg, h⟩ := pu_g h
  refine va_iald hx hb hK hP 1 0 rfl rfl hg d_Noise_tell_10 ?_
  refine lv_iconst (v := (-1)) hx hb d_Noise_tell_11 (by decide) ?_
  obtain ⟨j_1, hj_1, hx_1⟩ := pu_bd h
  have J_1 : ∀ (j1_2 : Int32) (H : Heap) (locs : List Loc) (ls : Array Slot), j_1 = j1_2 → lv_has ls 4 [(0, .ref q_o), (1, .int a1), (2, .int a2), (3, .int a3)] → va_P (dC, dI) vwCl [(q_o, .inr (4, [.ref q_o_least, .ref q_o_greatest, .int o_floor, .int o_told, .int o_beyondFloor])), (q_o_least, .inl (cI, o_least_n, .inl o_least_f)), (q_o_greatest, .inl (cI, o_greatest_n, .inl o_greatest_f))] H → va_D A [(q_o, .inr (4, [.ref q_o_least, .ref q_o_greatest, .int o_floor, .int o_told, .int o_beyondFloor])), (q_o_least, .inl (cI, o_least_n, .inl o_least_f)), (q_o_greatest, .inl (cI, o_greatest_n, .inl o_greatest_f))] → va_S A s.heap H locs → W p l e rm_Noise_tell s m args below meth c H locs 0 0 Q (F0 m 29 ls [.int j1_2, .int a1, .ref q_o_least]) := by
    intro j1_2 H locs ls he hl hP hD hS
    have h := hx_1
    rw [he] at h
    try dsimp only at h
    obtain ⟨hg, h⟩ := pu_g h
    refine va_iast hx hb hK hP hD hS 1 0 rfl rfl hg d_Noise_tell_29 (fun H locs hP hD hS => ?_)
    have hP : va_P (dC, dI) vwCl [(q_o, .inr (4, [.ref q_o_least, .ref q_o_greatest, .int o_floor, .int o_told, .int o_beyondFloor])), (q_o_least, .inl (cI, o_least_n, .inl (upd o_least_f a1.toNatClampNeg j1_2))), (q_o_greatest, .inl (cI, o_greatest_n, .inl o_greatest_f))] H := hP
    have hD : va_D A [(q_o, .inr (4, [.ref q_o_least, .ref q_o_greatest, .int o_floor, .int o_told, .int o_beyondFloor])), (q_o_least, .inl (cI, o_least_n, .inl (upd o_least_f a1.toNatClampNeg j1_2))), (q_o_greatest, .inl (cI, o_greatest_n, .inl o_greatest_f))] := hD
    refine lv_aload_n hx hb d_Noise_tell_30 rfl (lv_at hl 0 rfl) ?_
    refine va_get (D := (dC, dI)) (ci := 4) (v := .ref q_o_greatest) (C := R_Noise) (T := F_Noise) (N := 5) hx hb hts i_Noise hown hK hP 0 rfl rfl 1 (by decide) (hts _ k_97) (fun _ h9 => h9) rfl d_Noise_tell_31 ?_
    refine lv_iload_n hx hb d_Noise_tell_34 rfl (lv_at hl 1 rfl) ?_
    refine lv_aload_n hx hb d_Noise_tell_35 rfl (lv_at hl 0 rfl) ?_
    refine va_get (D := (dC, dI)) (ci := 4) (v := .ref q_o_greatest) (C := R_Noise) (T := F_Noise) (N := 5) hx hb hts i_Noise hown hK hP 0 rfl rfl 1 (by decide) (hts _ k_97) (fun _ h9 => h9) rfl d_Noise_tell_36 ?_
    refine lv_iload_n hx hb d_Noise_tell_39 rfl (lv_at hl 1 rfl) ?_
    obtain ⟨hg, h⟩ := pu_g h
    refine va_iald hx hb hK hP 2 0 rfl rfl hg d_Noise_tell_40 ?_
    refine lv_iload_n hx hb d_Noise_tell_41 rfl (lv_at hl 2 rfl) ?_
    refine va_mmax hx hb (hml.trans hl.1.symm) hown (hts _ k_259) (hts _ k_31) (hts _ k_2) (hts _ k_32) (Nat.le_of_ble_eq_true rfl) (Nat.le_of_ble_eq_true rfl) (Nat.le_of_ble_eq_true rfl) (Nat.le_of_ble_eq_true rfl) d_Noise_tell_42 ?_
    obtain ⟨hg, h⟩ := pu_g h
    refine va_iast hx hb hK hP hD hS 2 0 rfl rfl hg d_Noise_tell_45 (fun H locs hP hD hS => ?_)
    have hP : va_P (dC, dI) vwCl [(q_o, .inr (4, [.ref q_o_least, .ref q_o_greatest, .int o_floor, .int o_told, .int o_beyondFloor])), (q_o_least, .inl (cI, o_least_n, .inl (upd o_least_f a1.toNatClampNeg j1_2))), (q_o_greatest, .inl (cI, o_greatest_n, .inl (upd o_greatest_f a1.toNatClampNeg (if (o_greatest_f a1.toNatClampNeg) < a2 then a2 else (o_greatest_f a1.toNatClampNeg)))))] H := hP
    have hD : va_D A [(q_o, .inr (4, [.ref q_o_least, .ref q_o_greatest, .int o_floor, .int o_told, .int o_beyondFloor])), (q_o_least, .inl (cI, o_least_n, .inl (upd o_least_f a1.toNatClampNeg j1_2))), (q_o_greatest, .inl (cI, o_greatest_n, .inl (upd o_greatest_f a1.toNatClampNeg (if (o_greatest_f a1.toNatClampNeg) < a2 then a2 else (o_greatest_f a1.toNatClampNeg)))))] := hD
    refine lv_aload_n hx hb d_Noise_tell_46 rfl (lv_at hl 0 rfl) ?_
    refine lv_dup hx hb d_Noise_tell_47 rfl ?_
    refine va_get (D := (dC, dI)) (ci := 4) (v := .int o_told) (C := R_Noise) (T := F_Noise) (N := 5) hx hb hts i_Noise hown hK hP 0 rfl rfl 3 (by decide) (hts _ k_100) (fun _ h9 => h9) rfl d_Noise_tell_48 ?_
    refine lv_iconst (v := 1) hx hb d_Noise_tell_51 (by decide) ?_
    refine lv_iadd hx hb d_Noise_tell_52 ?_
    refine va_put (D := (dC, dI)) (ci := 4) (v := .int (o_told + 1)) (ty := .int) (C := R_Noise) (T := F_Noise) (N := 5) hx hb hts i_Noise t_Noise t_Noise_ok n_Noise hown hK hP hD hS 0 rfl rfl 3 (by decide) (hts _ k_100) (fun _ h9 => h9) rfl (by decide +kernel) rfl rfl (Nat.le_of_ble_eq_true rfl) d_Noise_tell_53 (fun H locs hP hD hS => ?_)
    have hP : va_P (dC, dI) vwCl [(q_o, .inr (4, [.ref q_o_least, .ref q_o_greatest, .int o_floor, .int (o_told + 1), .int o_beyondFloor])), (q_o_least, .inl (cI, o_least_n, .inl (upd o_least_f a1.toNatClampNeg j1_2))), (q_o_greatest, .inl (cI, o_greatest_n, .inl (upd o_greatest_f a1.toNatClampNeg (if (o_greatest_f a1.toNatClampNeg) < a2 then a2 else (o_greatest_f a1.toNatClampNeg)))))] H := hP
    have hD : va_D A [(q_o, .inr (4, [.ref q_o_least, .ref q_o_greatest, .int o_floor, .int (o_told + 1), .int o_beyondFloor])), (q_o_least, .inl (cI, o_least_n, .inl (upd o_least_f a1.toNatClampNeg j1_2))), (q_o_greatest, .inl (cI, o_greatest_n, .inl (upd o_greatest_f a1.toNatClampNeg (if (o_greatest_f a1.toNatClampNeg) < a2 then a2 else (o_greatest_f a1.toNatClampNeg)))))] := hD
    refine lv_iload_n hx hb d_Noise_tell_56 rfl (lv_at hl 2 rfl) ?_
    refine lv_iload_n hx hb d_Noise_tell_57 rfl (lv_at hl 3 rfl) ?_
    refine lv_isub hx hb d_Noise_tell_58 ?_
    refine va_mabs hx hb (hml.trans hl.1.symm) hown (hts _ k_258) (hts _ k_248) (hts _ k_2) (hts _ k_249) (Nat.le_of_ble_eq_true rfl) (Nat.le_of_ble_eq_true rfl) (Nat.le_of_ble_eq_true rfl) (Nat.le_of_ble_eq_true rfl) d_Noise_tell_59 ?_
    refine lv_aload_n hx hb d_Noise_tell_62 rfl (lv_at hl 0 rfl) ?_
    refine va_get (D := (dC, dI)) (ci := 4) (v := .int o_floor) (C := R_Noise) (T := F_Noise) (N := 5) hx hb hts i_Noise hown hK hP 0 rfl rfl 2 (by decide) (hts _ k_98) (fun _ h9 => h9) rfl d_Noise_tell_63 ?_
    refine lv_icmp_le (tgt := 79) hx hb d_Noise_tell_66 (by decide) (fun hc => ?_) (fun hc => ?_)
    · have h := pu_t hc h
      cases h
      refine W.widen (k := 0) (n := 0) (Nat.le_of_ble_eq_true rfl) (Nat.le_of_ble_eq_true rfl) ?_
      exact RT 79 ls H locs _ d_Noise_tell_79 (Or.inl ⟨rfl, rfl⟩) rfl (hP.sub [0, 1, 2] rfl) (hD.sub [0, 1, 2] (by decide) rfl) hS
    · have h := pu_f hc h
      refine lv_aload_n hx hb d_Noise_tell_69 rfl (lv_at hl 0 rfl) ?_
      refine lv_dup hx hb d_Noise_tell_70 rfl ?_
      refine va_get (D := (dC, dI)) (ci := 4) (v := .int o_beyondFloor) (C := R_Noise) (T := F_Noise) (N := 5) hx hb hts i_Noise hown hK hP 0 rfl rfl 4 (by decide) (hts _ k_102) (fun _ h9 => h9) rfl d_Noise_tell_71 ?_
      refine lv_iconst (v := 1) hx hb d_Noise_tell_74 (by decide) ?_
      refine lv_iadd hx hb d_Noise_tell_75 ?_
      refine va_put (D := (dC, dI)) (ci := 4) (v := .int (o_beyondFloor + 1)) (ty := .int) (C := R_Noise) (T := F_Noise) (N := 5) hx hb hts i_Noise t_Noise t_Noise_ok n_Noise hown hK hP hD hS 0 rfl rfl 4 (by decide) (hts _ k_102) (fun _ h9 => h9) rfl (by decide +kernel) rfl rfl (Nat.le_of_ble_eq_true rfl) d_Noise_tell_76 (fun H locs hP hD hS => ?_)
      have hP : va_P (dC, dI) vwCl [(q_o, .inr (4, [.ref q_o_least, .ref q_o_greatest, .int o_floor, .int (o_told + 1), .int (o_beyondFloor + 1)])), (q_o_least, .inl (cI, o_least_n, .inl (upd o_least_f a1.toNatClampNeg j1_2))), (q_o_greatest, .inl (cI, o_greatest_n, .inl (upd o_greatest_f a1.toNatClampNeg (if (o_greatest_f a1.toNatClampNeg) < a2 then a2 else (o_greatest_f a1.toNatClampNeg)))))] H := hP
      have hD : va_D A [(q_o, .inr (4, [.ref q_o_least, .ref q_o_greatest, .int o_floor, .int (o_told + 1), .int (o_beyondFloor + 1)])), (q_o_least, .inl (cI, o_least_n, .inl (upd o_least_f a1.toNatClampNeg j1_2))), (q_o_greatest, .inl (cI, o_greatest_n, .inl (upd o_greatest_f a1.toNatClampNeg (if (o_greatest_f a1.toNatClampNeg) < a2 then a2 else (o_greatest_f a1.toNatClampNeg)))))] := hD
      cases h
      refine W.widen (k := 0) (n := 0) (Nat.le_of_ble_eq_true rfl) (Nat.le_of_ble_eq_true rfl) ?_
      exact RT 79 ls H locs _ d_Noise_tell_79 (Or.inl ⟨rfl, rfl⟩) rfl (hP.sub [0, 1, 2] rfl) (hD.sub [0, 1, 2] (by decide) rfl) hS
  have h := hj_1
  refine lv_icmp_ne (tgt := 19) hx hb d_Noise_tell_12 (by decide) (fun hc => ?_) (fun hc => ?_)
  · have h := pu_f hc h
    refine lv_aload_n hx hb d_Noise_tell_19 rfl (lv_at hl 0 rfl) ?_
    refine va_get (D := (dC, dI)) (ci := 4) (v := .ref q_o_least) (C := R_Noise) (T := F_Noise) (N := 5) hx hb hts i_Noise hown hK hP 0 rfl rfl 0 (by decide) (hts _ k_96) (fun _ h9 => h9) rfl d_Noise_tell_20 ?_
    refine lv_iload_n hx hb d_Noise_tell_23 rfl (lv_at hl 1 rfl) ?_
    obtain ⟨hg, h⟩ := pu_g h
    refine va_iald hx hb hK hP 1 0 rfl rfl hg d_Noise_tell_24 ?_
    refine lv_iload_n hx hb d_Noise_tell_25 rfl (lv_at hl 2 rfl) ?_
    refine va_mmin hx hb (hml.trans hl.1.symm) hown (hts _ k_507) (hts _ k_28) (hts _ k_2) (hts _ k_29) (Nat.le_of_ble_eq_true rfl) (Nat.le_of_ble_eq_true rfl) (Nat.le_of_ble_eq_true rfl) (Nat.le_of_ble_eq_true rfl) d_Noise_tell_26 ?_
    exact J_1 (if a2 < (o_least_f a1.toNatClampNeg) then a2 else (o_least_f a1.toNatClampNeg)) H locs ls (Option.some.inj h).symm (lv_sub hl [0, 1, 2, 3] rfl) (hP.sub [0, 1, 2] rfl) (hD.sub [0, 1, 2] (by decide) rfl) hS
  · have h := pu_t hc h
    refine lv_iload_n hx hb d_Noise_tell_15 rfl (lv_at hl 2 rfl) ?_
    refine lv_goto (tgt := 29) hx hb d_Noise_tell_16 (by decide) ?_
    exact J_1 a2 H locs ls (Option.some.inj h).symm (lv_sub hl [0, 1, 2, 3] rfl) (hP.sub [0, 1, 2] rfl) (hD.sub [0, 1, 2] (by decide) rfl) hS

noncomputable def p_Noise_boundOf (a1 : Int32) (a2 : Int32) (o_floor : Int32) (o_told : Int32) (o_beyondFloor : Int32) (o_least_n : Nat) (o_least_f : Nat → Int32) (o_greatest_n : Nat) (o_greatest_f : Nat → Int32) : Option (Int32) :=
  pu_gd (vp_in a1 o_least_n) ((if (o_least_f a1.toNatClampNeg) = (-1) then some o_floor else pu_gd (vp_in a1 o_least_n) (pu_gd (vp_in a1 o_greatest_n) (some (o_floor + (if (if 0 ≤ ((o_least_f a1.toNatClampNeg) - a2) then ((o_least_f a1.toNatClampNeg) - a2) else 0 - ((o_least_f a1.toNatClampNeg) - a2)) < (if 0 ≤ ((o_greatest_f a1.toNatClampNeg) - a2) then ((o_greatest_f a1.toNatClampNeg) - a2) else 0 - ((o_greatest_f a1.toNatClampNeg) - a2)) then (if 0 ≤ ((o_greatest_f a1.toNatClampNeg) - a2) then ((o_greatest_f a1.toNatClampNeg) - a2) else 0 - ((o_greatest_f a1.toNatClampNeg) - a2)) else (if 0 ≤ ((o_least_f a1.toNatClampNeg) - a2) then ((o_least_f a1.toNatClampNeg) - a2) else 0 - ((o_least_f a1.toNatClampNeg) - a2))))))))
set_option maxHeartbeats 4000000 in
set_option maxRecDepth 100000 in
theorem c_Noise_boundOf (l : Launch) (dC : Nat → ClassId) (dI : Nat → Nat → Nat) (cI cJ cZ : ClassId) (q_o q_o_least q_o_greatest : Nat) (a1 : Int32) (a2 : Int32) (o_floor : Int32) (o_told : Int32) (o_beyondFloor : Int32) (o_least_n : Nat) (o_least_f : Nat → Int32) (o_greatest_n : Nat) (o_greatest_f : Nat → Int32) (r0 : Int32) (h : p_Noise_boundOf a1 a2 o_floor o_told o_beyondFloor o_least_n o_least_f o_greatest_n o_greatest_f = some r0) : ct l y_Noise_boundOf w_Noise_boundOf rm_Noise_boundOf (dC, dI) [(cI, .int), (cJ, .long), (cZ, .boolean)] [.ref q_o, .int a1, .int a2] [(q_o, .inr (4, [.ref q_o_least, .ref q_o_greatest, .int o_floor, .int o_told, .int o_beyondFloor])), (q_o_least, .inl (cI, o_least_n, .inl o_least_f)), (q_o_greatest, .inl (cI, o_greatest_n, .inl o_greatest_f))] (fun w => w = [(q_o, .inr (4, [.ref q_o_least, .ref q_o_greatest, .int o_floor, .int o_told, .int o_beyondFloor])), (q_o_least, .inl (cI, o_least_n, .inl o_least_f)), (q_o_greatest, .inl (cI, o_greatest_n, .inl o_greatest_f))]) (some (.int r0)) := by
  refine ct_of (cc := b_Noise_boundOf) (maxL := 4) (ret := (some .int)) (lv := [(0, .ref q_o), (1, .int a1), (2, .int a2)]) (by decide) rfl rfl rfl ?_
  intro p e s m args below meth c A Q H locs hx hb hml hown hts hin hA hK hN hP hD hS RT ls hl
  unfold p_Noise_boundOf at h
  refine lv_aload_n hx hb d_Noise_boundOf_0 rfl (lv_at hl 0 rfl) ?_
  refine va_get (D := (dC, dI)) (ci := 4) (v := .ref q_o_least) (C := R_Noise) (T := F_Noise) (N := 5) hx hb hts i_Noise hown hK hP 0 rfl rfl 0 (by decide) (hts _ k_96) (fun _ h9 => h9) rfl d_Noise_boundOf_1 ?_
  refine lv_iload_n hx hb d_Noise_boundOf_4 rfl (lv_at hl 1 rfl) ?_
  obtain ⟨hg, h⟩ := pu_g h
  refine va_iald hx hb hK hP 1 0 rfl rfl hg d_Noise_boundOf_5 ?_
  refine lv_iconst (v := (-1)) hx hb d_Noise_boundOf_6 (by decide) ?_
  refine lv_icmp_ne (tgt := 15) hx hb d_Noise_boundOf_7 (by decide) (fun hc => ?_) (fun hc => ?_)
  · have h := pu_f hc h
    refine lv_aload_n hx hb d_Noise_boundOf_15 rfl (lv_at hl 0 rfl) ?_
    refine va_get (D := (dC, dI)) (ci := 4) (v := .ref q_o_least) (C := R_Noise) (T := F_Noise) (N := 5) hx hb hts i_Noise hown hK hP 0 rfl rfl 0 (by decide) (hts _ k_96) (fun _ h9 => h9) rfl d_Noise_boundOf_16 ?_
    refine lv_iload_n hx hb d_Noise_boundOf_19 rfl (lv_at hl 1 rfl) ?_
    obtain ⟨hg, h⟩ := pu_g h
    refine va_iald hx hb hK hP 1 0 rfl rfl hg d_Noise_boundOf_20 ?_
    refine lv_iload_n hx hb d_Noise_boundOf_21 rfl (lv_at hl 2 rfl) ?_
    refine lv_isub hx hb d_Noise_boundOf_22 ?_
    refine va_mabs hx hb (hml.trans hl.1.symm) hown (hts _ k_258) (hts _ k_248) (hts _ k_2) (hts _ k_249) (Nat.le_of_ble_eq_true rfl) (Nat.le_of_ble_eq_true rfl) (Nat.le_of_ble_eq_true rfl) (Nat.le_of_ble_eq_true rfl) d_Noise_boundOf_23 ?_
    refine lv_aload_n hx hb d_Noise_boundOf_26 rfl (lv_at hl 0 rfl) ?_
    refine va_get (D := (dC, dI)) (ci := 4) (v := .ref q_o_greatest) (C := R_Noise) (T := F_Noise) (N := 5) hx hb hts i_Noise hown hK hP 0 rfl rfl 1 (by decide) (hts _ k_97) (fun _ h9 => h9) rfl d_Noise_boundOf_27 ?_
    refine lv_iload_n hx hb d_Noise_boundOf_30 rfl (lv_at hl 1 rfl) ?_
    obtain ⟨hg, h⟩ := pu_g h
    refine va_iald hx hb hK hP 2 0 rfl rfl hg d_Noise_boundOf_31 ?_
    refine lv_iload_n hx hb d_Noise_boundOf_32 rfl (lv_at hl 2 rfl) ?_
    refine lv_isub hx hb d_Noise_boundOf_33 ?_
    refine va_mabs hx hb (hml.trans hl.1.symm) hown (hts _ k_258) (hts _ k_248) (hts _ k_2) (hts _ k_249) (Nat.le_of_ble_eq_true rfl) (Nat.le_of_ble_eq_true rfl) (Nat.le_of_ble_eq_true rfl) (Nat.le_of_ble_eq_true rfl) d_Noise_boundOf_34 ?_
    refine va_mmax hx hb (hml.trans hl.1.symm) hown (hts _ k_259) (hts _ k_31) (hts _ k_2) (hts _ k_32) (Nat.le_of_ble_eq_true rfl) (Nat.le_of_ble_eq_true rfl) (Nat.le_of_ble_eq_true rfl) (Nat.le_of_ble_eq_true rfl) d_Noise_boundOf_37 ?_
    refine lv_istore_n (lv' := [(3, .int (if (if 0 ≤ ((o_least_f a1.toNatClampNeg) - a2) then ((o_least_f a1.toNatClampNeg) - a2) else 0 - ((o_least_f a1.toNatClampNeg) - a2)) < (if 0 ≤ ((o_greatest_f a1.toNatClampNeg) - a2) then ((o_greatest_f a1.toNatClampNeg) - a2) else 0 - ((o_greatest_f a1.toNatClampNeg) - a2)) then (if 0 ≤ ((o_greatest_f a1.toNatClampNeg) - a2) then ((o_greatest_f a1.toNatClampNeg) - a2) else 0 - ((o_greatest_f a1.toNatClampNeg) - a2)) else (if 0 ≤ ((o_least_f a1.toNatClampNeg) - a2) then ((o_least_f a1.toNatClampNeg) - a2) else 0 - ((o_least_f a1.toNatClampNeg) - a2)))), (0, .ref q_o), (1, .int a1), (2, .int a2)]) hx hb d_Noise_boundOf_40 rfl hl (by decide) rfl (fun ls hl => ?_)
    refine lv_aload_n hx hb d_Noise_boundOf_41 rfl (lv_at hl 1 rfl) ?_
    refine va_get (D := (dC, dI)) (ci := 4) (v := .int o_floor) (C := R_Noise) (T := F_Noise) (N := 5) hx hb hts i_Noise hown hK hP 0 rfl rfl 2 (by decide) (hts _ k_98) (fun _ h9 => h9) rfl d_Noise_boundOf_42 ?_
    refine lv_iload_n hx hb d_Noise_boundOf_45 rfl (lv_at hl 0 rfl) ?_
    refine lv_iadd hx hb d_Noise_boundOf_46 ?_
    cases h
    refine W.widen (k := 0) (n := 0) (Nat.le_of_ble_eq_true rfl) (Nat.le_of_ble_eq_true rfl) ?_
    exact RT 47 ls H locs _ d_Noise_boundOf_47 (Or.inr (Or.inl ⟨rfl, _, rfl⟩)) rfl (hP.sub [0, 1, 2] rfl) (hD.sub [0, 1, 2] (by decide) rfl) hS
  · have h := pu_t hc h
    refine lv_aload_n hx hb d_Noise_boundOf_10 rfl (lv_at hl 0 rfl) ?_
    refine va_get (D := (dC, dI)) (ci := 4) (v := .int o_floor) (C := R_Noise) (T := F_Noise) (N := 5) hx hb hts i_Noise hown hK hP 0 rfl rfl 2 (by decide) (hts _ k_98) (fun _ h9 => h9) rfl d_Noise_boundOf_11 ?_
    cases h
    refine W.widen (k := 0) (n := 0) (Nat.le_of_ble_eq_true rfl) (Nat.le_of_ble_eq_true rfl) ?_
    exact RT 14 ls H locs _ d_Noise_boundOf_14 (Or.inr (Or.inl ⟨rfl, _, rfl⟩)) rfl (hP.sub [0, 1, 2] rfl) (hD.sub [0, 1, 2] (by decide) rfl) hS
