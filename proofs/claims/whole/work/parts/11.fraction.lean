noncomputable def p_Fraction_init  : Option (Int64 × Int64) :=
  some (0, 1)
set_option maxHeartbeats 4000000 in
set_option maxRecDepth 100000 in
theorem c_Fraction_init (l : Launch) (dC : Nat → ClassId) (dI : Nat → Nat → Nat) (cI cJ cZ : ClassId) (q_o : Nat)  (r0 : Int64) (r1 : Int64) (h : p_Fraction_init = some (r0, r1)) : ct l y_Fraction_init w_Fraction_init rm_Fraction_init (dC, dI) [(cI, .int), (cJ, .long), (cZ, .boolean)] [.ref q_o] [(q_o, .inr (3, [.long 0, .long 0]))] (fun w => w = [(q_o, .inr (3, [.long r0, .long r1]))]) none := by
  refine ct_of (cc := b_Fraction_init) (maxL := 1) (ret := none) (lv := [(0, .ref q_o)]) (by decide) rfl rfl rfl ?_
  intro p e s m args below meth c A Q H locs hx hb hml hown hts hin hA hK hN hP hD hS RT ls hl
  unfold p_Fraction_init at h
  refine lv_aload_n hx hb d_Fraction_init_0 rfl (lv_at hl 0 rfl) ?_
  refine W.objInit hx hb hown (hts _ k_80) (hts _ k_22) (hts _ k_23) rfl (by rw [hml]; exact hl.1) rfl d_Fraction_init_1 (Nat.le_of_ble_eq_true rfl) (Nat.le_of_ble_eq_true rfl) ?_
  refine W.eq (g2 := F0 m 4 ls []) rfl ?_
  refine lv_aload_n hx hb d_Fraction_init_4 rfl (lv_at hl 0 rfl) ?_
  refine lv_lconst (v := 0) hx hb d_Fraction_init_5 (by decide) ?_
  refine va_put (D := (dC, dI)) (ci := 3) (v := .long 0) (ty := .long) (C := R_Fraction) (T := F_Fraction) (N := 2) hx hb hts i_Fraction t_Fraction t_Fraction_ok n_Fraction hown hK hP hD hS 0 rfl rfl 0 (by decide) (hts _ k_81) (fun _ h9 => h9) rfl (by decide +kernel) rfl rfl (Nat.le_of_ble_eq_true rfl) d_Fraction_init_6 (fun H locs hP hD hS => ?_)
  have hP : va_P (dC, dI) vwCl [(q_o, .inr (3, [.long 0, .long 0]))] H := hP
  have hD : va_D A [(q_o, .inr (3, [.long 0, .long 0]))] := hD
  refine lv_aload_n hx hb d_Fraction_init_9 rfl (lv_at hl 0 rfl) ?_
  refine lv_lconst (v := 1) hx hb d_Fraction_init_10 (by decide) ?_
  refine va_put (D := (dC, dI)) (ci := 3) (v := .long 1) (ty := .long) (C := R_Fraction) (T := F_Fraction) (N := 2) hx hb hts i_Fraction t_Fraction t_Fraction_ok n_Fraction hown hK hP hD hS 0 rfl rfl 1 (by decide) (hts _ k_83) (fun _ h9 => h9) rfl (by decide +kernel) rfl rfl (Nat.le_of_ble_eq_true rfl) d_Fraction_init_11 (fun H locs hP hD hS => ?_)
  have hP : va_P (dC, dI) vwCl [(q_o, .inr (3, [.long 0, .long 1]))] H := hP
  have hD : va_D A [(q_o, .inr (3, [.long 0, .long 1]))] := hD
  cases h
  refine W.widen (k := 0) (n := 0) (Nat.le_of_ble_eq_true rfl) (Nat.le_of_ble_eq_true rfl) ?_
  exact RT 14 ls H locs _ d_Fraction_init_14 (Or.inl ⟨rfl, rfl⟩) rfl (hP.sub [0] rfl) (hD.sub [0] (by decide) rfl) hS

noncomputable def p_Fraction_commonOf_L1  : (Int64 × Int64 × Int32) → Option ((Int64 × Int64 × Int32) ⊕ (Int64 × Int64 × Int32)) := fun ((x4_2, x6_3, x8_4) : Int64 × Int64 × Int32) =>
  (if 100 ≤ x8_4 then some (.inr (x4_2, x6_3, x8_4)) else (if (lg_cmp x6_3 0) = 0 then some (.inr (x4_2, x6_3, x8_4)) else pu_gd (¬ (x6_3 : Int64) = 0) (some (.inl (x6_3, (x4_2 - x4_2 / x6_3 * x6_3), (x8_4 + 1))))))
noncomputable def p_Fraction_commonOf (a1 : Int64) (a2 : Int64) : Option (Int64) :=
  (pu_loop (p_Fraction_commonOf_L1) (a1, a2, 0)).bind (fun ((y4_5, y6_6, y8_7) : Int64 × Int64 × Int32) => some y4_5)
set_option maxHeartbeats 4000000 in
set_option maxRecDepth 100000 in
theorem c_Fraction_commonOf (l : Launch) (dC : Nat → ClassId) (dI : Nat → Nat → Nat) (cI cJ cZ : ClassId) (a1 : Int64) (a2 : Int64) (r0 : Int64) (h : p_Fraction_commonOf a1 a2 = some r0) : ct l y_Fraction_commonOf w_Fraction_commonOf rm_Fraction_commonOf (dC, dI) [(cI, .int), (cJ, .long), (cZ, .boolean)] [.long a1, .long a2] [] (fun w => w = []) (some (.long r0)) := by
  refine ct_of (cc := b_Fraction_commonOf) (maxL := 11) (ret := (some .long)) (lv := [(0, .long a1), (2, .long a2)]) (by decide) rfl rfl rfl ?_
  intro p e s m args below meth c A Q H locs hx hb hml hown hts hin hA hK hN hP hD hS RT ls hl
  unfold p_Fraction_commonOf at h
  refine lv_lload_n hx hb d_Fraction_commonOf_0 rfl (lv_at hl 0 rfl) ?_
  refine lv_lstore (lv' := [(4, .long a1), (0, .long a1), (2, .long a2)]) hx hb d_Fraction_commonOf_1 hl (by decide) rfl (fun ls hl => ?_)
  refine lv_lload_n hx hb d_Fraction_commonOf_3 rfl (lv_at hl 2 rfl) ?_
  refine lv_lstore (lv' := [(6, .long a2), (4, .long a1), (0, .long a1), (2, .long a2)]) hx hb d_Fraction_commonOf_4 hl (by decide) rfl (fun ls hl => ?_)
  refine lv_iconst (v := 0) hx hb d_Fraction_commonOf_6 (by decide) ?_
  refine lv_istore (lv' := [(8, .int 0), (6, .long a2), (4, .long a1), (0, .long a1), (2, .long a2)]) hx hb d_Fraction_commonOf_7 hl (by decide) rfl (fun ls hl => ?_)
  obtain ⟨e_1, he_1, hx_1⟩ := pu_bd h
  obtain ⟨n_1, hn_1⟩ := pu_loop_it he_1
  have K_1 : ∀ (y4_5 : Int64) (y6_6 : Int64) (y8_7 : Int32) (H : Heap) (locs : List Loc) (ls : Array Slot), e_1 = (y4_5, y6_6, y8_7) → lv_has ls 11 [(8, .int y8_7), (6, .long y6_6), (4, .long y4_5), (0, .long a1), (2, .long a2)] → va_P (dC, dI) vwCl [] H → va_D A [] → va_S A s.heap H locs → W p l e rm_Fraction_commonOf s m args below meth c H locs 0 0 Q (F0 m 44 ls []) := by
    intro y4_5 y6_6 y8_7 H locs ls he hl hP hD hS
    have h := hx_1
    rw [he] at h
    try dsimp only at h
    refine lv_lload hx hb d_Fraction_commonOf_44 (lv_at hl 2 rfl) ?_
    cases h
    refine W.widen (k := 0) (n := 0) (Nat.le_of_ble_eq_true rfl) (Nat.le_of_ble_eq_true rfl) ?_
    exact RT 46 ls H locs _ d_Fraction_commonOf_46 (Or.inr (Or.inr (Or.inl ⟨rfl, _, rfl⟩))) rfl (hP.sub [] rfl) (hD.sub [] (by decide) rfl) hS
  have L_1 : ∀ (n : Nat) (x4_2 : Int64) (x6_3 : Int64) (x8_4 : Int32) (H : Heap) (locs : List Loc) (ls : Array Slot), pu_it (p_Fraction_commonOf_L1) n (x4_2, x6_3, x8_4) = some e_1 → lv_has ls 11 [(8, .int x8_4), (6, .long x6_3), (4, .long x4_2), (0, .long a1), (2, .long a2)] → va_P (dC, dI) vwCl [] H → va_D A [] → va_S A s.heap H locs → W p l e rm_Fraction_commonOf s m args below meth c H locs 0 0 Q (F0 m 9 ls []) := by
    intro n
    induction n with
    | zero => intro x4_2 x6_3 x8_4 H locs ls hn; exact (pu_it_0 hn).elim
    | succ n ih =>
      intro x4_2 x6_3 x8_4 H locs ls hn hl hP hD hS
      obtain ⟨r_1, h, hr_1⟩ := pu_it_succ hn
      unfold p_Fraction_commonOf_L1 at h
      try dsimp only at h
      refine lv_iload hx hb d_Fraction_commonOf_9 (lv_at hl 0 rfl) ?_
      refine lv_bipush (v := 100) hx hb d_Fraction_commonOf_11 (by decide) ?_
      refine lv_icmp_ge (tgt := 44) hx hb d_Fraction_commonOf_13 (by decide) (fun hc => ?_) (fun hc => ?_)
      · have h := pu_t hc h
        cases h
        exact K_1 x4_2 x6_3 x8_4 H locs ls hr_1.symm (lv_sub hl [0, 1, 2, 3, 4] rfl) (hP.sub [] rfl) (hD.sub [] (by decide) rfl) hS
      · have h := pu_f hc h
        refine lv_lload hx hb d_Fraction_commonOf_16 (lv_at hl 1 rfl) ?_
        refine lv_lconst (v := 0) hx hb d_Fraction_commonOf_18 (by decide) ?_
        refine W.lcmp hx hb d_Fraction_commonOf_19 ?_
        refine lv_if_eq (tgt := 44) hx hb d_Fraction_commonOf_20 (by decide) (fun hc => ?_) (fun hc => ?_)
        · have h := pu_t hc h
          cases h
          exact K_1 x4_2 x6_3 x8_4 H locs ls hr_1.symm (lv_sub hl [0, 1, 2, 3, 4] rfl) (hP.sub [] rfl) (hD.sub [] (by decide) rfl) hS
        · have h := pu_f hc h
          refine lv_lload hx hb d_Fraction_commonOf_23 (lv_at hl 2 rfl) ?_
          refine lv_lload hx hb d_Fraction_commonOf_25 (lv_at hl 1 rfl) ?_
          obtain ⟨hg, h⟩ := pu_g h
          refine lv_lrem hx hb d_Fraction_commonOf_27 hg ?_
          refine lv_lstore (lv' := [(9, .long (x4_2 - x4_2 / x6_3 * x6_3)), (8, .int x8_4), (6, .long x6_3), (4, .long x4_2), (0, .long a1), (2, .long a2)]) hx hb d_Fraction_commonOf_28 hl (by decide) rfl (fun ls hl => ?_)
          refine lv_lload hx hb d_Fraction_commonOf_30 (lv_at hl 2 rfl) ?_
          refine lv_lstore (lv' := [(4, .long x6_3), (9, .long (x4_2 - x4_2 / x6_3 * x6_3)), (8, .int x8_4), (6, .long x6_3), (0, .long a1), (2, .long a2)]) hx hb d_Fraction_commonOf_32 hl (by decide) rfl (fun ls hl => ?_)
          refine lv_lload hx hb d_Fraction_commonOf_34 (lv_at hl 1 rfl) ?_
          refine lv_lstore (lv' := [(6, .long (x4_2 - x4_2 / x6_3 * x6_3)), (4, .long x6_3), (9, .long (x4_2 - x4_2 / x6_3 * x6_3)), (8, .int x8_4), (0, .long a1), (2, .long a2)]) hx hb d_Fraction_commonOf_36 hl (by decide) rfl (fun ls hl => ?_)
          refine lv_iinc (v := (x8_4 + 1)) (lv' := [(8, .int (x8_4 + 1)), (6, .long (x4_2 - x4_2 / x6_3 * x6_3)), (4, .long x6_3), (9, .long (x4_2 - x4_2 / x6_3 * x6_3)), (0, .long a1), (2, .long a2)]) hx hb d_Fraction_commonOf_38 hl (k := 3) rfl rfl (by decide) rfl (fun ls hl => ?_)
          refine lv_goto (tgt := 9) hx hb d_Fraction_commonOf_41 (by decide) ?_
          cases h
          exact ih x6_3 (x4_2 - x4_2 / x6_3 * x6_3) (x8_4 + 1) H locs ls hr_1 (lv_sub hl [0, 1, 2, 4, 5] rfl) (hP.sub [] rfl) (hD.sub [] (by decide) rfl) hS
  exact L_1 n_1 a1 a2 0 H locs ls hn_1 hl hP hD hS

noncomputable def p_Fraction_become (a1 : Int64) (a2 : Int64) (o_above : Int64) (o_below : Int64) : Option (Int64 × Int64) :=
  (p_Fraction_commonOf (if 0 < a1 then a1 else -a1) a2).bind (fun (v1 : Int64) => (if (lg_cmp v1 0) ≤ 0 then some (o_above, o_below) else pu_gd (¬ (v1 : Int64) = 0) (pu_gd (¬ (v1 : Int64) = 0) (some ((a1 / v1), (a2 / v1))))))
set_option maxHeartbeats 4000000 in
set_option maxRecDepth 100000 in
theorem c_Fraction_become (l : Launch) (dC : Nat → ClassId) (dI : Nat → Nat → Nat) (cI cJ cZ : ClassId) (q_o : Nat) (a1 : Int64) (a2 : Int64) (o_above : Int64) (o_below : Int64) (r0 : Int64) (r1 : Int64) (h : p_Fraction_become a1 a2 o_above o_below = some (r0, r1)) : ct l y_Fraction_become w_Fraction_become rm_Fraction_become (dC, dI) [(cI, .int), (cJ, .long), (cZ, .boolean)] [.ref q_o, .long a1, .long a2] [(q_o, .inr (3, [.long o_above, .long o_below]))] (fun w => w = [(q_o, .inr (3, [.long r0, .long r1]))]) none := by
  refine ct_of (cc := b_Fraction_become) (maxL := 7) (ret := none) (lv := [(0, .ref q_o), (1, .long a1), (3, .long a2)]) (by decide) rfl rfl rfl ?_
  intro p e s m args below meth c A Q H locs hx hb hml hown hts hin hA hK hN hP hD hS RT ls hl
  unfold p_Fraction_become at h
  refine lv_lload_n hx hb d_Fraction_become_0 rfl (lv_at hl 1 rfl) ?_
  refine va_mabs_long hx hb (hml.trans hl.1.symm) hown (hts _ k_228) (hts _ k_229) (hts _ k_2) (hts _ k_230) (Nat.le_of_ble_eq_true rfl) (Nat.le_of_ble_eq_true rfl) (Nat.le_of_ble_eq_true rfl) (Nat.le_of_ble_eq_true rfl) d_Fraction_become_1 ?_
  refine lv_lload_n hx hb d_Fraction_become_4 rfl (lv_at hl 2 rfl) ?_
  obtain ⟨v1, hu1, h⟩ := pu_bd h
  refine cc_S (As := [.long (if 0 < a1 then a1 else -a1), .long a2]) (rest := []) ⟨hx, hb, hml, hown, hts⟩ (c_Fraction_commonOf l dC dI cI cJ cZ (if 0 < a1 then a1 else -a1) a2 v1 hu1) (cwS 2 hts (gS k_231 k_232 k_5 k_233 rfl) rfl rfl rfl hdV_Fraction_commonOf ⟨Nat.le_of_ble_eq_true rfl, Nat.le_of_ble_eq_true rfl⟩) hK hN hP hD hS hA [] [0] (w0 := []) (wr := [(q_o, .inr (3, [.long o_above, .long o_below]))]) rfl rfl (by decide) (by decide) (by decide) rfl hl.1 rfl (Nat.le_of_ble_eq_true rfl) d_Fraction_become_5 ⟨Nat.le_of_ble_eq_true rfl, Nat.le_of_ble_eq_true rfl⟩ (fun w1 H locs hw1 hP hD hS => ?_)
  subst hw1
  have hP : va_P (dC, dI) vwCl [(q_o, .inr (3, [.long o_above, .long o_below]))] H := hP
  have hD : va_D A [(q_o, .inr (3, [.long o_above, .long o_below]))] := hD
  refine lv_lstore (lv' := [(5, .long v1), (0, .ref q_o), (1, .long a1), (3, .long a2)]) hx hb d_Fraction_become_8 hl (by decide) rfl (fun ls hl => ?_)
  refine lv_lload hx hb d_Fraction_become_10 (lv_at hl 0 rfl) ?_
  refine lv_lconst (v := 0) hx hb d_Fraction_become_12 (by decide) ?_
  refine W.lcmp hx hb d_Fraction_become_13 ?_
  refine lv_if_le (tgt := 33) hx hb d_Fraction_become_14 (by decide) (fun hc => ?_) (fun hc => ?_)
  · have h := pu_t hc h
    cases h
    refine W.widen (k := 0) (n := 0) (Nat.le_of_ble_eq_true rfl) (Nat.le_of_ble_eq_true rfl) ?_
    exact RT 33 ls H locs _ d_Fraction_become_33 (Or.inl ⟨rfl, rfl⟩) rfl (hP.sub [0] rfl) (hD.sub [0] (by decide) rfl) hS
  · have h := pu_f hc h
    refine lv_aload_n hx hb d_Fraction_become_17 rfl (lv_at hl 1 rfl) ?_
    refine lv_lload_n hx hb d_Fraction_become_18 rfl (lv_at hl 2 rfl) ?_
    refine lv_lload hx hb d_Fraction_become_19 (lv_at hl 0 rfl) ?_
    obtain ⟨hg, h⟩ := pu_g h
    refine lv_ldiv hx hb d_Fraction_become_21 hg ?_
    refine va_put (D := (dC, dI)) (ci := 3) (v := .long (a1 / v1)) (ty := .long) (C := R_Fraction) (T := F_Fraction) (N := 2) hx hb hts i_Fraction t_Fraction t_Fraction_ok n_Fraction hown hK hP hD hS 0 rfl rfl 0 (by decide) (hts _ k_81) (fun _ h9 => h9) rfl (by decide +kernel) rfl rfl (Nat.le_of_ble_eq_true rfl) d_Fraction_become_22 (fun H locs hP hD hS => ?_)
    have hP : va_P (dC, dI) vwCl [(q_o, .inr (3, [.long (a1 / v1), .long o_below]))] H := hP
    have hD : va_D A [(q_o, .inr (3, [.long (a1 / v1), .long o_below]))] := hD
    refine lv_aload_n hx hb d_Fraction_become_25 rfl (lv_at hl 1 rfl) ?_
    refine lv_lload_n hx hb d_Fraction_become_26 rfl (lv_at hl 3 rfl) ?_
    refine lv_lload hx hb d_Fraction_become_27 (lv_at hl 0 rfl) ?_
    obtain ⟨hg, h⟩ := pu_g h
    refine lv_ldiv hx hb d_Fraction_become_29 hg ?_
    refine va_put (D := (dC, dI)) (ci := 3) (v := .long (a2 / v1)) (ty := .long) (C := R_Fraction) (T := F_Fraction) (N := 2) hx hb hts i_Fraction t_Fraction t_Fraction_ok n_Fraction hown hK hP hD hS 0 rfl rfl 1 (by decide) (hts _ k_83) (fun _ h9 => h9) rfl (by decide +kernel) rfl rfl (Nat.le_of_ble_eq_true rfl) d_Fraction_become_30 (fun H locs hP hD hS => ?_)
    have hP : va_P (dC, dI) vwCl [(q_o, .inr (3, [.long (a1 / v1), .long (a2 / v1)]))] H := hP
    have hD : va_D A [(q_o, .inr (3, [.long (a1 / v1), .long (a2 / v1)]))] := hD
    cases h
    refine W.widen (k := 0) (n := 0) (Nat.le_of_ble_eq_true rfl) (Nat.le_of_ble_eq_true rfl) ?_
    exact RT 33 ls H locs _ d_Fraction_become_33 (Or.inl ⟨rfl, rfl⟩) rfl (hP.sub [0] rfl) (hD.sub [0] (by decide) rfl) hS

noncomputable def p_Fraction_timesRounded (a1 : Int32) (o_above : Int64) (o_below : Int64) : Option (Int32) :=
  (if 0 < (lg_cmp o_below 0) then pu_gd (¬ ((2 * o_below) : Int64) = 0) (some (((((2 * o_above) * (a1.toInt64)) + o_below) / (2 * o_below)).toInt32)) else some 0)
set_option maxHeartbeats 4000000 in
set_option maxRecDepth 100000 in
theorem c_Fraction_timesRounded (l : Launch) (dC : Nat → ClassId) (dI : Nat → Nat → Nat) (cI cJ cZ : ClassId) (q_o : Nat) (a1 : Int32) (o_above : Int64) (o_below : Int64) (r0 : Int32) (h : p_Fraction_timesRounded a1 o_above o_below = some r0) : ct l y_Fraction_timesRounded w_Fraction_timesRounded rm_Fraction_timesRounded (dC, dI) [(cI, .int), (cJ, .long), (cZ, .boolean)] [.ref q_o, .int a1] [(q_o, .inr (3, [.long o_above, .long o_below]))] (fun w => w = [(q_o, .inr (3, [.long o_above, .long o_below]))]) (some (.int r0)) := by
  refine ct_of (cc := b_Fraction_timesRounded) (maxL := 2) (ret := (some .int)) (lv := [(0, .ref q_o), (1, .int a1)]) (by decide) rfl rfl rfl ?_
  intro p e s m args below meth c A Q H locs hx hb hml hown hts hin hA hK hN hP hD hS RT ls hl
  unfold p_Fraction_timesRounded at h
  refine lv_aload_n hx hb d_Fraction_timesRounded_0 rfl (lv_at hl 0 rfl) ?_
  refine va_get (D := (dC, dI)) (ci := 3) (v := .long o_below) (C := R_Fraction) (T := F_Fraction) (N := 2) hx hb hts i_Fraction hown hK hP 0 rfl rfl 1 (by decide) (hts _ k_83) (fun _ h9 => h9) rfl d_Fraction_timesRounded_1 ?_
  refine lv_lconst (v := 0) hx hb d_Fraction_timesRounded_4 (by decide) ?_
  refine W.lcmp hx hb d_Fraction_timesRounded_5 ?_
  refine lv_if_gt (tgt := 11) hx hb d_Fraction_timesRounded_6 (by decide) (fun hc => ?_) (fun hc => ?_)
  · have h := pu_t hc h
    refine lv_ldc2 (v := 2) hx hb hown (hts _ k_246) d_Fraction_timesRounded_11 ?_
    refine lv_aload_n hx hb d_Fraction_timesRounded_14 rfl (lv_at hl 0 rfl) ?_
    refine va_get (D := (dC, dI)) (ci := 3) (v := .long o_above) (C := R_Fraction) (T := F_Fraction) (N := 2) hx hb hts i_Fraction hown hK hP 0 rfl rfl 0 (by decide) (hts _ k_81) (fun _ h9 => h9) rfl d_Fraction_timesRounded_15 ?_
    refine lv_lmul hx hb d_Fraction_timesRounded_18 ?_
    refine lv_iload_n hx hb d_Fraction_timesRounded_19 rfl (lv_at hl 1 rfl) ?_
    refine lv_i2l hx hb d_Fraction_timesRounded_20 rfl ?_
    refine lv_lmul hx hb d_Fraction_timesRounded_21 ?_
    refine lv_aload_n hx hb d_Fraction_timesRounded_22 rfl (lv_at hl 0 rfl) ?_
    refine va_get (D := (dC, dI)) (ci := 3) (v := .long o_below) (C := R_Fraction) (T := F_Fraction) (N := 2) hx hb hts i_Fraction hown hK hP 0 rfl rfl 1 (by decide) (hts _ k_83) (fun _ h9 => h9) rfl d_Fraction_timesRounded_23 ?_
    refine lv_ladd hx hb d_Fraction_timesRounded_26 ?_
    refine lv_ldc2 (v := 2) hx hb hown (hts _ k_246) d_Fraction_timesRounded_27 ?_
    refine lv_aload_n hx hb d_Fraction_timesRounded_30 rfl (lv_at hl 0 rfl) ?_
    refine va_get (D := (dC, dI)) (ci := 3) (v := .long o_below) (C := R_Fraction) (T := F_Fraction) (N := 2) hx hb hts i_Fraction hown hK hP 0 rfl rfl 1 (by decide) (hts _ k_83) (fun _ h9 => h9) rfl d_Fraction_timesRounded_31 ?_
    refine lv_lmul hx hb d_Fraction_timesRounded_34 ?_
    obtain ⟨hg, h⟩ := pu_g h
    refine lv_ldiv hx hb d_Fraction_timesRounded_35 hg ?_
    refine lv_l2i hx hb d_Fraction_timesRounded_36 rfl ?_
    cases h
    refine W.widen (k := 0) (n := 0) (Nat.le_of_ble_eq_true rfl) (Nat.le_of_ble_eq_true rfl) ?_
    exact RT 37 ls H locs _ d_Fraction_timesRounded_37 (Or.inr (Or.inl ⟨rfl, _, rfl⟩)) rfl (hP.sub [0] rfl) (hD.sub [0] (by decide) rfl) hS
  · have h := pu_f hc h
    refine lv_iconst (v := 0) hx hb d_Fraction_timesRounded_9 (by decide) ?_
    cases h
    refine W.widen (k := 0) (n := 0) (Nat.le_of_ble_eq_true rfl) (Nat.le_of_ble_eq_true rfl) ?_
    exact RT 10 ls H locs _ d_Fraction_timesRounded_10 (Or.inr (Or.inl ⟨rfl, _, rfl⟩)) rfl (hP.sub [0] rfl) (hD.sub [0] (by decide) rfl) hS
