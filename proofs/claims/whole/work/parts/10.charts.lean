noncomputable def p_Charts_init  : Option (Int32 × Nat × (Nat → Int32) × Nat × (Nat → Int32)) :=
  pu_gd (¬ (12 : Int32) < 0 ∧ (12 : Int32).toNatClampNeg ≤ 12) (pu_gd (¬ (12 : Int32) < 0 ∧ (12 : Int32).toNatClampNeg ≤ 12) (some (0, ((12 : Int32).toNatClampNeg), (fun _ => 0), ((12 : Int32).toNatClampNeg), (fun _ => 0))))
set_option maxHeartbeats 4000000 in
set_option maxRecDepth 100000 in
theorem c_Charts_init (l : Launch) (dC : Nat → ClassId) (dI : Nat → Nat → Nat) (cI cJ cZ : ClassId) (q_o : Nat)  (r0 : Int32) (r1 : Nat) (r2 : Nat → Int32) (r3 : Nat) (r4 : Nat → Int32) (h : p_Charts_init = some (r0, r1, r2, r3, r4)) : ct l y_Charts_init w_Charts_init rm_Charts_init (dC, dI) [(cI, .int), (cJ, .long), (cZ, .boolean)] [.ref q_o] [(q_o, .inr (1, [.null, .null, .int 0]))] (fun w => ∃ (q_o_xs q_o_ys : Nat), w = [(q_o, .inr (1, [.ref q_o_xs, .ref q_o_ys, .int r0])), (q_o_xs, .inl (cI, r1, .inl r2)), (q_o_ys, .inl (cI, r3, .inl r4))]) none := by
  refine ct_of (cc := b_Charts_init) (maxL := 1) (ret := none) (lv := [(0, .ref q_o)]) (by decide) rfl rfl rfl ?_
  intro p e s m args below meth c A Q H locs hx hb hml hown hts hin hA hK hN hP hD hS RT ls hl
  unfold p_Charts_init at h
  refine lv_aload_n hx hb d_Charts_init_0 rfl (lv_at hl 0 rfl) ?_
  refine W.objInit hx hb hown (hts _ k_61) (hts _ k_22) (hts _ k_23) rfl (by rw [hml]; exact hl.1) rfl d_Charts_init_1 (Nat.le_of_ble_eq_true rfl) (Nat.le_of_ble_eq_true rfl) ?_
  refine W.eq (g2 := F0 m 4 ls []) rfl ?_
  refine lv_aload_n hx hb d_Charts_init_4 rfl (lv_at hl 0 rfl) ?_
  refine lv_bipush (v := 12) hx hb d_Charts_init_5 (by decide) ?_
  obtain ⟨hg, h⟩ := pu_g h
  refine va_newa (atype := .int) (ty := .int) (a0 := ((12 : Int32).toNatClampNeg, .inl (fun _ => 0))) (N' := (12 : Int32).toNatClampNeg) hx hb (hts _ k_55) rfl hK hP hD hS hA (fun _ => rfl) hg.1 rfl (Nat.le_trans (Nat.mul_le_mul_right 4 hg.2) (by decide)) (by decide) (Nat.le_trans (Nat.add_le_add_left hg.2 _) (by decide)) d_Charts_init_7 (fun q1 cA H hK2 hP hD hS => ?_)
  obtain rfl : cI = cA := va_RA_int (hK.2 0 (cI, .int) rfl).2 (hK2.2 3 (cA, .int) rfl).2
  refine W.widen (k := 1) (n := 12) (Nat.le_refl _) (Nat.add_le_add_left hg.2 _) ?_
  have hP : va_P (dC, dI) vwCl [(q_o, .inr (1, [.null, .null, .int 0])), (q1, .inl (cI, ((12 : Int32).toNatClampNeg), .inl (fun _ => 0)))] H := hP
  have hD : va_D A [(q_o, .inr (1, [.null, .null, .int 0])), (q1, .inl (cI, ((12 : Int32).toNatClampNeg), .inl (fun _ => 0)))] := hD
  refine va_putF (D := (dC, dI)) (ci := 1) (v := .ref q1) (ty := (.array .int)) (C := R_Charts) (T := F_Charts) (N := 3) hx hb hts i_Charts t_Charts t_Charts_ok n_Charts hown hK hP hD hS 0 rfl rfl 0 (by decide) (hts _ k_62) (fun _ h9 => h9) rfl hin rfl (by decide +kernel) rfl rfl (Nat.le_of_ble_eq_true rfl) d_Charts_init_9 (fun H locs hP hD hS => ?_)
  have hP : va_P (dC, dI) vwCl [(q_o, .inr (1, [.ref q1, .null, .int 0])), (q1, .inl (cI, ((12 : Int32).toNatClampNeg), .inl (fun _ => 0)))] H := hP
  have hD : va_D A [(q_o, .inr (1, [.ref q1, .null, .int 0])), (q1, .inl (cI, ((12 : Int32).toNatClampNeg), .inl (fun _ => 0)))] := hD
  refine lv_aload_n hx hb d_Charts_init_12 rfl (lv_at hl 0 rfl) ?_
  refine lv_bipush (v := 12) hx hb d_Charts_init_13 (by decide) ?_
  obtain ⟨hg, h⟩ := pu_g h
  refine va_newa (atype := .int) (ty := .int) (a0 := ((12 : Int32).toNatClampNeg, .inl (fun _ => 0))) (N' := (12 : Int32).toNatClampNeg) hx hb (hts _ k_55) rfl hK hP hD hS hA (fun _ => rfl) hg.1 rfl (Nat.le_trans (Nat.mul_le_mul_right 4 hg.2) (by decide)) (by decide) (Nat.le_trans (Nat.add_le_add_left hg.2 _) (by decide)) d_Charts_init_15 (fun q2 cA H hK2 hP hD hS => ?_)
  obtain rfl : cI = cA := va_RA_int (hK.2 0 (cI, .int) rfl).2 (hK2.2 3 (cA, .int) rfl).2
  refine W.widen (k := 2) (n := 24) (Nat.le_refl _) (Nat.add_le_add_left hg.2 _) ?_
  have hP : va_P (dC, dI) vwCl [(q_o, .inr (1, [.ref q1, .null, .int 0])), (q1, .inl (cI, ((12 : Int32).toNatClampNeg), .inl (fun _ => 0))), (q2, .inl (cI, ((12 : Int32).toNatClampNeg), .inl (fun _ => 0)))] H := hP
  have hD : va_D A [(q_o, .inr (1, [.ref q1, .null, .int 0])), (q1, .inl (cI, ((12 : Int32).toNatClampNeg), .inl (fun _ => 0))), (q2, .inl (cI, ((12 : Int32).toNatClampNeg), .inl (fun _ => 0)))] := hD
  refine va_putF (D := (dC, dI)) (ci := 1) (v := .ref q2) (ty := (.array .int)) (C := R_Charts) (T := F_Charts) (N := 3) hx hb hts i_Charts t_Charts t_Charts_ok n_Charts hown hK hP hD hS 0 rfl rfl 1 (by decide) (hts _ k_64) (fun _ h9 => h9) rfl hin rfl (by decide +kernel) rfl rfl (Nat.le_of_ble_eq_true rfl) d_Charts_init_17 (fun H locs hP hD hS => ?_)
  have hP : va_P (dC, dI) vwCl [(q_o, .inr (1, [.ref q1, .ref q2, .int 0])), (q1, .inl (cI, ((12 : Int32).toNatClampNeg), .inl (fun _ => 0))), (q2, .inl (cI, ((12 : Int32).toNatClampNeg), .inl (fun _ => 0)))] H := hP
  have hD : va_D A [(q_o, .inr (1, [.ref q1, .ref q2, .int 0])), (q1, .inl (cI, ((12 : Int32).toNatClampNeg), .inl (fun _ => 0))), (q2, .inl (cI, ((12 : Int32).toNatClampNeg), .inl (fun _ => 0)))] := hD
  cases h
  refine W.widen (k := 2) (n := 24) (Nat.le_of_ble_eq_true rfl) (Nat.le_of_ble_eq_true rfl) ?_
  exact RT 20 ls H locs _ d_Charts_init_20 (Or.inl ⟨rfl, rfl⟩) ⟨q1, q2, rfl⟩ (hP.sub [0, 1, 2] rfl) (hD.sub [0, 1, 2] (by decide) rfl) hS

noncomputable def p_Charts_find_L1 (a1 : Int32) (a2 : Int32) (o_held : Int32) (o_xs_n : Nat) (o_xs_f : Nat → Int32) (o_ys_n : Nat) (o_ys_f : Nat → Int32) : (Int32) → Option ((Int32) ⊕ ((Int32) ⊕ (Int32))) := fun (x3_2 : Int32) =>
  (if o_held ≤ x3_2 then some (.inr (.inl x3_2)) else pu_gd (vp_in x3_2 o_xs_n) ((if (o_xs_f x3_2.toNatClampNeg) = a1 then pu_gd (vp_in x3_2 o_ys_n) ((if (o_ys_f x3_2.toNatClampNeg) = a2 then some (.inr (.inr x3_2)) else some (.inl (x3_2 + 1)))) else some (.inl (x3_2 + 1)))))
noncomputable def p_Charts_find (a1 : Int32) (a2 : Int32) (o_held : Int32) (o_xs_n : Nat) (o_xs_f : Nat → Int32) (o_ys_n : Nat) (o_ys_f : Nat → Int32) : Option (Int32) :=
  (pu_loop (p_Charts_find_L1 a1 a2 o_held o_xs_n o_xs_f o_ys_n o_ys_f) 0).bind (fun (e : (Int32) ⊕ (Int32)) => match e with | .inl y3_3 => some (-1) | .inr r => some r)
set_option maxHeartbeats 4000000 in
set_option maxRecDepth 100000 in
theorem c_Charts_find (l : Launch) (dC : Nat → ClassId) (dI : Nat → Nat → Nat) (cI cJ cZ : ClassId) (q_o q_o_xs q_o_ys : Nat) (a1 : Int32) (a2 : Int32) (o_held : Int32) (o_xs_n : Nat) (o_xs_f : Nat → Int32) (o_ys_n : Nat) (o_ys_f : Nat → Int32) (r0 : Int32) (h : p_Charts_find a1 a2 o_held o_xs_n o_xs_f o_ys_n o_ys_f = some r0) : ct l y_Charts_find w_Charts_find rm_Charts_find (dC, dI) [(cI, .int), (cJ, .long), (cZ, .boolean)] [.ref q_o, .int a1, .int a2] [(q_o, .inr (1, [.ref q_o_xs, .ref q_o_ys, .int o_held])), (q_o_xs, .inl (cI, o_xs_n, .inl o_xs_f)), (q_o_ys, .inl (cI, o_ys_n, .inl o_ys_f))] (fun w => w = [(q_o, .inr (1, [.ref q_o_xs, .ref q_o_ys, .int o_held])), (q_o_xs, .inl (cI, o_xs_n, .inl o_xs_f)), (q_o_ys, .inl (cI, o_ys_n, .inl o_ys_f))]) (some (.int r0)) := by
  refine ct_of (cc := b_Charts_find) (maxL := 4) (ret := (some .int)) (lv := [(0, .ref q_o), (1, .int a1), (2, .int a2)]) (by decide) rfl rfl rfl ?_
  intro p e s m args below meth c A Q H locs hx hb hml hown hts hin hA hK hN hP hD hS RT ls hl
  unfold p_Charts_find at h
  refine lv_iconst (v := 0) hx hb d_Charts_find_0 (by decide) ?_
  refine lv_istore_n (lv' := [(3, .int 0), (0, .ref q_o), (1, .int a1), (2, .int a2)]) hx hb d_Charts_find_1 rfl hl (by decide) rfl (fun ls hl => ?_)
  obtain ⟨e_1, he_1, hx_1⟩ := pu_bd h
  obtain ⟨n_1, hn_1⟩ := pu_loop_it he_1
  have K_1 : ∀ (y3_3 : Int32) (H : Heap) (locs : List Loc) (ls : Array Slot), e_1 = .inl y3_3 → lv_has ls 4 [(3, .int y3_3), (0, .ref q_o), (1, .int a1), (2, .int a2)] → va_P (dC, dI) vwCl [(q_o, .inr (1, [.ref q_o_xs, .ref q_o_ys, .int o_held])), (q_o_xs, .inl (cI, o_xs_n, .inl o_xs_f)), (q_o_ys, .inl (cI, o_ys_n, .inl o_ys_f))] H → va_D A [(q_o, .inr (1, [.ref q_o_xs, .ref q_o_ys, .int o_held])), (q_o_xs, .inl (cI, o_xs_n, .inl o_xs_f)), (q_o_ys, .inl (cI, o_ys_n, .inl o_ys_f))] → va_S A s.heap H locs → W p l e rm_Charts_find s m args below meth c H locs 0 0 Q (F0 m 38 ls []) := by
    intro y3_3 H locs ls he hl hP hD hS
    have h := hx_1
    rw [he] at h
    try dsimp only at h
    refine lv_iconst (v := (-1)) hx hb d_Charts_find_38 (by decide) ?_
    cases h
    refine W.widen (k := 0) (n := 0) (Nat.le_of_ble_eq_true rfl) (Nat.le_of_ble_eq_true rfl) ?_
    exact RT 39 ls H locs _ d_Charts_find_39 (Or.inr (Or.inl ⟨rfl, _, rfl⟩)) rfl (hP.sub [0, 1, 2] rfl) (hD.sub [0, 1, 2] (by decide) rfl) hS
  have L_1 : ∀ (n : Nat) (x3_2 : Int32) (H : Heap) (locs : List Loc) (ls : Array Slot), pu_it (p_Charts_find_L1 a1 a2 o_held o_xs_n o_xs_f o_ys_n o_ys_f) n x3_2 = some e_1 → lv_has ls 4 [(3, .int x3_2), (0, .ref q_o), (1, .int a1), (2, .int a2)] → va_P (dC, dI) vwCl [(q_o, .inr (1, [.ref q_o_xs, .ref q_o_ys, .int o_held])), (q_o_xs, .inl (cI, o_xs_n, .inl o_xs_f)), (q_o_ys, .inl (cI, o_ys_n, .inl o_ys_f))] H → va_D A [(q_o, .inr (1, [.ref q_o_xs, .ref q_o_ys, .int o_held])), (q_o_xs, .inl (cI, o_xs_n, .inl o_xs_f)), (q_o_ys, .inl (cI, o_ys_n, .inl o_ys_f))] → va_S A s.heap H locs → W p l e rm_Charts_find s m args below meth c H locs 0 0 Q (F0 m 2 ls []) := by
    intro n
    induction n with
    | zero => intro x3_2 H locs ls hn; exact (pu_it_0 hn).elim
    | succ n ih =>
      intro x3_2 H locs ls hn hl hP hD hS
      obtain ⟨r_1, h, hr_1⟩ := pu_it_succ hn
      unfold p_Charts_find_L1 at h
      try dsimp only at h
      refine lv_iload_n hx hb d_Charts_find_2 rfl (lv_at hl 0 rfl) ?_
      refine lv_aload_n hx hb d_Charts_find_3 rfl (lv_at hl 1 rfl) ?_
      refine va_get (D := (dC, dI)) (ci := 1) (v := .int o_held) (C := R_Charts) (T := F_Charts) (N := 3) hx hb hts i_Charts hown hK hP 0 rfl rfl 2 (by decide) (hts _ k_66) (fun _ h9 => h9) rfl d_Charts_find_4 ?_
      refine lv_icmp_ge (tgt := 38) hx hb d_Charts_find_7 (by decide) (fun hc => ?_) (fun hc => ?_)
      · have h := pu_t hc h
        cases h
        exact K_1 x3_2 H locs ls hr_1.symm (lv_sub hl [0, 1, 2, 3] rfl) (hP.sub [0, 1, 2] rfl) (hD.sub [0, 1, 2] (by decide) rfl) hS
      · have h := pu_f hc h
        refine lv_aload_n hx hb d_Charts_find_10 rfl (lv_at hl 1 rfl) ?_
        refine va_get (D := (dC, dI)) (ci := 1) (v := .ref q_o_xs) (C := R_Charts) (T := F_Charts) (N := 3) hx hb hts i_Charts hown hK hP 0 rfl rfl 0 (by decide) (hts _ k_62) (fun _ h9 => h9) rfl d_Charts_find_11 ?_
        refine lv_iload_n hx hb d_Charts_find_14 rfl (lv_at hl 0 rfl) ?_
        obtain ⟨hg, h⟩ := pu_g h
        refine va_iald hx hb hK hP 1 0 rfl rfl hg d_Charts_find_15 ?_
        refine lv_iload_n hx hb d_Charts_find_16 rfl (lv_at hl 2 rfl) ?_
        refine lv_icmp_ne (tgt := 32) hx hb d_Charts_find_17 (by decide) (fun hc => ?_) (fun hc => ?_)
        · have h := pu_f hc h
          refine lv_iinc (v := (x3_2 + 1)) (lv' := [(3, .int (x3_2 + 1)), (0, .ref q_o), (1, .int a1), (2, .int a2)]) hx hb d_Charts_find_32 hl (k := 0) rfl rfl (by decide) rfl (fun ls hl => ?_)
          refine lv_goto (tgt := 2) hx hb d_Charts_find_35 (by decide) ?_
          cases h
          exact ih (x3_2 + 1) H locs ls hr_1 (lv_sub hl [0, 1, 2, 3] rfl) (hP.sub [0, 1, 2] rfl) (hD.sub [0, 1, 2] (by decide) rfl) hS
        · have h := pu_t hc h
          refine lv_aload_n hx hb d_Charts_find_20 rfl (lv_at hl 1 rfl) ?_
          refine va_get (D := (dC, dI)) (ci := 1) (v := .ref q_o_ys) (C := R_Charts) (T := F_Charts) (N := 3) hx hb hts i_Charts hown hK hP 0 rfl rfl 1 (by decide) (hts _ k_64) (fun _ h9 => h9) rfl d_Charts_find_21 ?_
          refine lv_iload_n hx hb d_Charts_find_24 rfl (lv_at hl 0 rfl) ?_
          obtain ⟨hg, h⟩ := pu_g h
          refine va_iald hx hb hK hP 2 0 rfl rfl hg d_Charts_find_25 ?_
          refine lv_iload_n hx hb d_Charts_find_26 rfl (lv_at hl 3 rfl) ?_
          refine lv_icmp_ne (tgt := 32) hx hb d_Charts_find_27 (by decide) (fun hc => ?_) (fun hc => ?_)
          · have h := pu_f hc h
            refine lv_iinc (v := (x3_2 + 1)) (lv' := [(3, .int (x3_2 + 1)), (0, .ref q_o), (1, .int a1), (2, .int a2)]) hx hb d_Charts_find_32 hl (k := 0) rfl rfl (by decide) rfl (fun ls hl => ?_)
            refine lv_goto (tgt := 2) hx hb d_Charts_find_35 (by decide) ?_
            cases h
            exact ih (x3_2 + 1) H locs ls hr_1 (lv_sub hl [0, 1, 2, 3] rfl) (hP.sub [0, 1, 2] rfl) (hD.sub [0, 1, 2] (by decide) rfl) hS
          · have h := pu_t hc h
            refine lv_iload_n hx hb d_Charts_find_30 rfl (lv_at hl 0 rfl) ?_
            cases h
            have hq := hr_1
            unfold pu_k at hq
            try dsimp only at hq
            subst hq
            have h := hx_1
            try dsimp only at h
            cases h
            refine W.widen (k := 0) (n := 0) (Nat.le_of_ble_eq_true rfl) (Nat.le_of_ble_eq_true rfl) ?_
            exact RT 31 ls H locs _ d_Charts_find_31 (Or.inr (Or.inl ⟨rfl, _, rfl⟩)) rfl (hP.sub [0, 1, 2] rfl) (hD.sub [0, 1, 2] (by decide) rfl) hS
  exact L_1 n_1 0 H locs ls hn_1 hl hP hD hS

noncomputable def p_Charts_remove (a1 : Int32) (o_held : Int32) (o_xs_n : Nat) (o_xs_f : Nat → Int32) (o_ys_n : Nat) (o_ys_f : Nat → Int32) : Option (Int32 × (Nat → Int32) × (Nat → Int32)) :=
  (if a1 < 0 then some (o_held, o_xs_f, o_ys_f) else (if o_held ≤ a1 then some (o_held, o_xs_f, o_ys_f) else pu_gd (vp_in (o_held - 1) o_xs_n) (pu_gd (vp_in a1 o_xs_n) (pu_gd (vp_in (o_held - 1) o_ys_n) (pu_gd (vp_in a1 o_ys_n) (some ((o_held - 1), (upd o_xs_f a1.toNatClampNeg (o_xs_f (o_held - 1).toNatClampNeg)), (upd o_ys_f a1.toNatClampNeg (o_ys_f (o_held - 1).toNatClampNeg)))))))))
set_option maxHeartbeats 4000000 in
set_option maxRecDepth 100000 in
theorem c_Charts_remove (l : Launch) (dC : Nat → ClassId) (dI : Nat → Nat → Nat) (cI cJ cZ : ClassId) (q_o q_o_xs q_o_ys : Nat) (a1 : Int32) (o_held : Int32) (o_xs_n : Nat) (o_xs_f : Nat → Int32) (o_ys_n : Nat) (o_ys_f : Nat → Int32) (r0 : Int32) (r1 : Nat → Int32) (r2 : Nat → Int32) (h : p_Charts_remove a1 o_held o_xs_n o_xs_f o_ys_n o_ys_f = some (r0, r1, r2)) : ct l y_Charts_remove w_Charts_remove rm_Charts_remove (dC, dI) [(cI, .int), (cJ, .long), (cZ, .boolean)] [.ref q_o, .int a1] [(q_o, .inr (1, [.ref q_o_xs, .ref q_o_ys, .int o_held])), (q_o_xs, .inl (cI, o_xs_n, .inl o_xs_f)), (q_o_ys, .inl (cI, o_ys_n, .inl o_ys_f))] (fun w => w = [(q_o, .inr (1, [.ref q_o_xs, .ref q_o_ys, .int r0])), (q_o_xs, .inl (cI, o_xs_n, .inl r1)), (q_o_ys, .inl (cI, o_ys_n, .inl r2))]) none := by
  refine ct_of (cc := b_Charts_remove) (maxL := 2) (ret := none) (lv := [(0, .ref q_o), (1, .int a1)]) (by decide) rfl rfl rfl ?_
  intro p e s m args below meth c A Q H locs hx hb hml hown hts hin hA hK hN hP hD hS RT ls hl
  unfold p_Charts_remove at h
  refine lv_iload_n hx hb d_Charts_remove_0 rfl (lv_at hl 1 rfl) ?_
  refine lv_if_lt (tgt := 52) hx hb d_Charts_remove_1 (by decide) (fun hc => ?_) (fun hc => ?_)
  · have h := pu_t hc h
    cases h
    refine W.widen (k := 0) (n := 0) (Nat.le_of_ble_eq_true rfl) (Nat.le_of_ble_eq_true rfl) ?_
    exact RT 52 ls H locs _ d_Charts_remove_52 (Or.inl ⟨rfl, rfl⟩) rfl (hP.sub [0, 1, 2] rfl) (hD.sub [0, 1, 2] (by decide) rfl) hS
  · have h := pu_f hc h
    refine lv_iload_n hx hb d_Charts_remove_4 rfl (lv_at hl 1 rfl) ?_
    refine lv_aload_n hx hb d_Charts_remove_5 rfl (lv_at hl 0 rfl) ?_
    refine va_get (D := (dC, dI)) (ci := 1) (v := .int o_held) (C := R_Charts) (T := F_Charts) (N := 3) hx hb hts i_Charts hown hK hP 0 rfl rfl 2 (by decide) (hts _ k_66) (fun _ h9 => h9) rfl d_Charts_remove_6 ?_
    refine lv_icmp_ge (tgt := 52) hx hb d_Charts_remove_9 (by decide) (fun hc => ?_) (fun hc => ?_)
    · have h := pu_t hc h
      cases h
      refine W.widen (k := 0) (n := 0) (Nat.le_of_ble_eq_true rfl) (Nat.le_of_ble_eq_true rfl) ?_
      exact RT 52 ls H locs _ d_Charts_remove_52 (Or.inl ⟨rfl, rfl⟩) rfl (hP.sub [0, 1, 2] rfl) (hD.sub [0, 1, 2] (by decide) rfl) hS
    · have h := pu_f hc h
      refine lv_aload_n hx hb d_Charts_remove_12 rfl (lv_at hl 0 rfl) ?_
      refine lv_dup hx hb d_Charts_remove_13 rfl ?_
      refine va_get (D := (dC, dI)) (ci := 1) (v := .int o_held) (C := R_Charts) (T := F_Charts) (N := 3) hx hb hts i_Charts hown hK hP 0 rfl rfl 2 (by decide) (hts _ k_66) (fun _ h9 => h9) rfl d_Charts_remove_14 ?_
      refine lv_iconst (v := 1) hx hb d_Charts_remove_17 (by decide) ?_
      refine lv_isub hx hb d_Charts_remove_18 ?_
      refine va_put (D := (dC, dI)) (ci := 1) (v := .int (o_held - 1)) (ty := .int) (C := R_Charts) (T := F_Charts) (N := 3) hx hb hts i_Charts t_Charts t_Charts_ok n_Charts hown hK hP hD hS 0 rfl rfl 2 (by decide) (hts _ k_66) (fun _ h9 => h9) rfl (by decide +kernel) rfl rfl (Nat.le_of_ble_eq_true rfl) d_Charts_remove_19 (fun H locs hP hD hS => ?_)
      have hP : va_P (dC, dI) vwCl [(q_o, .inr (1, [.ref q_o_xs, .ref q_o_ys, .int (o_held - 1)])), (q_o_xs, .inl (cI, o_xs_n, .inl o_xs_f)), (q_o_ys, .inl (cI, o_ys_n, .inl o_ys_f))] H := hP
      have hD : va_D A [(q_o, .inr (1, [.ref q_o_xs, .ref q_o_ys, .int (o_held - 1)])), (q_o_xs, .inl (cI, o_xs_n, .inl o_xs_f)), (q_o_ys, .inl (cI, o_ys_n, .inl o_ys_f))] := hD
      refine lv_aload_n hx hb d_Charts_remove_22 rfl (lv_at hl 0 rfl) ?_
      refine va_get (D := (dC, dI)) (ci := 1) (v := .ref q_o_xs) (C := R_Charts) (T := F_Charts) (N := 3) hx hb hts i_Charts hown hK hP 0 rfl rfl 0 (by decide) (hts _ k_62) (fun _ h9 => h9) rfl d_Charts_remove_23 ?_
      refine lv_iload_n hx hb d_Charts_remove_26 rfl (lv_at hl 1 rfl) ?_
      refine lv_aload_n hx hb d_Charts_remove_27 rfl (lv_at hl 0 rfl) ?_
      refine va_get (D := (dC, dI)) (ci := 1) (v := .ref q_o_xs) (C := R_Charts) (T := F_Charts) (N := 3) hx hb hts i_Charts hown hK hP 0 rfl rfl 0 (by decide) (hts _ k_62) (fun _ h9 => h9) rfl d_Charts_remove_28 ?_
      refine lv_aload_n hx hb d_Charts_remove_31 rfl (lv_at hl 0 rfl) ?_
      refine va_get (D := (dC, dI)) (ci := 1) (v := .int (o_held - 1)) (C := R_Charts) (T := F_Charts) (N := 3) hx hb hts i_Charts hown hK hP 0 rfl rfl 2 (by decide) (hts _ k_66) (fun _ h9 => h9) rfl d_Charts_remove_32 ?_
      obtain ⟨hg, h⟩ := pu_g h
      refine va_iald hx hb hK hP 1 0 rfl rfl hg d_Charts_remove_35 ?_
      obtain ⟨hg, h⟩ := pu_g h
      refine va_iast hx hb hK hP hD hS 1 0 rfl rfl hg d_Charts_remove_36 (fun H locs hP hD hS => ?_)
      have hP : va_P (dC, dI) vwCl [(q_o, .inr (1, [.ref q_o_xs, .ref q_o_ys, .int (o_held - 1)])), (q_o_xs, .inl (cI, o_xs_n, .inl (upd o_xs_f a1.toNatClampNeg (o_xs_f (o_held - 1).toNatClampNeg)))), (q_o_ys, .inl (cI, o_ys_n, .inl o_ys_f))] H := hP
      have hD : va_D A [(q_o, .inr (1, [.ref q_o_xs, .ref q_o_ys, .int (o_held - 1)])), (q_o_xs, .inl (cI, o_xs_n, .inl (upd o_xs_f a1.toNatClampNeg (o_xs_f (o_held - 1).toNatClampNeg)))), (q_o_ys, .inl (cI, o_ys_n, .inl o_ys_f))] := hD
      refine lv_aload_n hx hb d_Charts_remove_37 rfl (lv_at hl 0 rfl) ?_
      refine va_get (D := (dC, dI)) (ci := 1) (v := .ref q_o_ys) (C := R_Charts) (T := F_Charts) (N := 3) hx hb hts i_Charts hown hK hP 0 rfl rfl 1 (by decide) (hts _ k_64) (fun _ h9 => h9) rfl d_Charts_remove_38 ?_
      refine lv_iload_n hx hb d_Charts_remove_41 rfl (lv_at hl 1 rfl) ?_
      refine lv_aload_n hx hb d_Charts_remove_42 rfl (lv_at hl 0 rfl) ?_
      refine va_get (D := (dC, dI)) (ci := 1) (v := .ref q_o_ys) (C := R_Charts) (T := F_Charts) (N := 3) hx hb hts i_Charts hown hK hP 0 rfl rfl 1 (by decide) (hts _ k_64) (fun _ h9 => h9) rfl d_Charts_remove_43 ?_
      refine lv_aload_n hx hb d_Charts_remove_46 rfl (lv_at hl 0 rfl) ?_
      refine va_get (D := (dC, dI)) (ci := 1) (v := .int (o_held - 1)) (C := R_Charts) (T := F_Charts) (N := 3) hx hb hts i_Charts hown hK hP 0 rfl rfl 2 (by decide) (hts _ k_66) (fun _ h9 => h9) rfl d_Charts_remove_47 ?_
      obtain ⟨hg, h⟩ := pu_g h
      refine va_iald hx hb hK hP 2 0 rfl rfl hg d_Charts_remove_50 ?_
      obtain ⟨hg, h⟩ := pu_g h
      refine va_iast hx hb hK hP hD hS 2 0 rfl rfl hg d_Charts_remove_51 (fun H locs hP hD hS => ?_)
      have hP : va_P (dC, dI) vwCl [(q_o, .inr (1, [.ref q_o_xs, .ref q_o_ys, .int (o_held - 1)])), (q_o_xs, .inl (cI, o_xs_n, .inl (upd o_xs_f a1.toNatClampNeg (o_xs_f (o_held - 1).toNatClampNeg)))), (q_o_ys, .inl (cI, o_ys_n, .inl (upd o_ys_f a1.toNatClampNeg (o_ys_f (o_held - 1).toNatClampNeg))))] H := hP
      have hD : va_D A [(q_o, .inr (1, [.ref q_o_xs, .ref q_o_ys, .int (o_held - 1)])), (q_o_xs, .inl (cI, o_xs_n, .inl (upd o_xs_f a1.toNatClampNeg (o_xs_f (o_held - 1).toNatClampNeg)))), (q_o_ys, .inl (cI, o_ys_n, .inl (upd o_ys_f a1.toNatClampNeg (o_ys_f (o_held - 1).toNatClampNeg))))] := hD
      cases h
      refine W.widen (k := 0) (n := 0) (Nat.le_of_ble_eq_true rfl) (Nat.le_of_ble_eq_true rfl) ?_
      exact RT 52 ls H locs _ d_Charts_remove_52 (Or.inl ⟨rfl, rfl⟩) rfl (hP.sub [0, 1, 2] rfl) (hD.sub [0, 1, 2] (by decide) rfl) hS

noncomputable def p_Charts_isFull (o_held : Int32) : Option (Int32) :=
  (if o_held < 12 then some 0 else some 1)
set_option maxHeartbeats 4000000 in
set_option maxRecDepth 100000 in
theorem c_Charts_isFull (l : Launch) (dC : Nat → ClassId) (dI : Nat → Nat → Nat) (cI cJ cZ : ClassId) (q_o q_o_xs q_o_ys : Nat) (o_held : Int32) (r0 : Int32) (h : p_Charts_isFull o_held = some r0) : ct l y_Charts_isFull w_Charts_isFull rm_Charts_isFull (dC, dI) [(cI, .int), (cJ, .long), (cZ, .boolean)] [.ref q_o] [(q_o, .inr (1, [.ref q_o_xs, .ref q_o_ys, .int o_held]))] (fun w => w = [(q_o, .inr (1, [.ref q_o_xs, .ref q_o_ys, .int o_held]))]) (some (.int r0)) := by
  refine ct_of (cc := b_Charts_isFull) (maxL := 1) (ret := (some .boolean)) (lv := [(0, .ref q_o)]) (by decide) rfl rfl rfl ?_
  intro p e s m args below meth c A Q H locs hx hb hml hown hts hin hA hK hN hP hD hS RT ls hl
  unfold p_Charts_isFull at h
  refine lv_aload_n hx hb d_Charts_isFull_0 rfl (lv_at hl 0 rfl) ?_
  refine va_get (D := (dC, dI)) (ci := 1) (v := .int o_held) (C := R_Charts) (T := F_Charts) (N := 3) hx hb hts i_Charts hown hK hP 0 rfl rfl 2 (by decide) (hts _ k_66) (fun _ h9 => h9) rfl d_Charts_isFull_1 ?_
  refine lv_bipush (v := 12) hx hb d_Charts_isFull_4 (by decide) ?_
  refine lv_icmp_lt (tgt := 13) hx hb d_Charts_isFull_6 (by decide) (fun hc => ?_) (fun hc => ?_)
  · have h := pu_t hc h
    refine lv_iconst (v := 0) hx hb d_Charts_isFull_13 (by decide) ?_
    cases h
    refine W.widen (k := 0) (n := 0) (Nat.le_of_ble_eq_true rfl) (Nat.le_of_ble_eq_true rfl) ?_
    exact RT 14 ls H locs _ d_Charts_isFull_14 (Or.inr (Or.inr (Or.inr ⟨rfl, _, rfl, rfl⟩))) rfl (hP.sub [0] rfl) (hD.sub [0] (by decide) rfl) hS
  · have h := pu_f hc h
    refine lv_iconst (v := 1) hx hb d_Charts_isFull_9 (by decide) ?_
    refine lv_goto (tgt := 14) hx hb d_Charts_isFull_10 (by decide) ?_
    cases h
    refine W.widen (k := 0) (n := 0) (Nat.le_of_ble_eq_true rfl) (Nat.le_of_ble_eq_true rfl) ?_
    exact RT 14 ls H locs _ d_Charts_isFull_14 (Or.inr (Or.inr (Or.inr ⟨rfl, _, rfl, rfl⟩))) rfl (hP.sub [0] rfl) (hD.sub [0] (by decide) rfl) hS

noncomputable def p_Charts_add (a1 : Int32) (a2 : Int32) (o_held : Int32) (o_xs_n : Nat) (o_xs_f : Nat → Int32) (o_ys_n : Nat) (o_ys_f : Nat → Int32) : Option (Int32 × (Nat → Int32) × (Nat → Int32)) :=
  (if 12 ≤ o_held then some (o_held, o_xs_f, o_ys_f) else pu_gd (vp_in o_held o_xs_n) (pu_gd (vp_in o_held o_ys_n) (some ((o_held + 1), (upd o_xs_f o_held.toNatClampNeg a1), (upd o_ys_f o_held.toNatClampNeg a2)))))
set_option maxHeartbeats 4000000 in
set_option maxRecDepth 100000 in
theorem c_Charts_add (l : Launch) (dC : Nat → ClassId) (dI : Nat → Nat → Nat) (cI cJ cZ : ClassId) (q_o q_o_xs q_o_ys : Nat) (a1 : Int32) (a2 : Int32) (o_held : Int32) (o_xs_n : Nat) (o_xs_f : Nat → Int32) (o_ys_n : Nat) (o_ys_f : Nat → Int32) (r0 : Int32) (r1 : Nat → Int32) (r2 : Nat → Int32) (h : p_Charts_add a1 a2 o_held o_xs_n o_xs_f o_ys_n o_ys_f = some (r0, r1, r2)) : ct l y_Charts_add w_Charts_add rm_Charts_add (dC, dI) [(cI, .int), (cJ, .long), (cZ, .boolean)] [.ref q_o, .int a1, .int a2] [(q_o, .inr (1, [.ref q_o_xs, .ref q_o_ys, .int o_held])), (q_o_xs, .inl (cI, o_xs_n, .inl o_xs_f)), (q_o_ys, .inl (cI, o_ys_n, .inl o_ys_f))] (fun w => w = [(q_o, .inr (1, [.ref q_o_xs, .ref q_o_ys, .int r0])), (q_o_xs, .inl (cI, o_xs_n, .inl r1)), (q_o_ys, .inl (cI, o_ys_n, .inl r2))]) none := by
  refine ct_of (cc := b_Charts_add) (maxL := 3) (ret := none) (lv := [(0, .ref q_o), (1, .int a1), (2, .int a2)]) (by decide) rfl rfl rfl ?_
  intro p e s m args below meth c A Q H locs hx hb hml hown hts hin hA hK hN hP hD hS RT ls hl
  unfold p_Charts_add at h
  refine lv_aload_n hx hb d_Charts_add_0 rfl (lv_at hl 0 rfl) ?_
  refine va_get (D := (dC, dI)) (ci := 1) (v := .int o_held) (C := R_Charts) (T := F_Charts) (N := 3) hx hb hts i_Charts hown hK hP 0 rfl rfl 2 (by decide) (hts _ k_66) (fun _ h9 => h9) rfl d_Charts_add_1 ?_
  refine lv_bipush (v := 12) hx hb d_Charts_add_4 (by decide) ?_
  refine lv_icmp_ge (tgt := 39) hx hb d_Charts_add_6 (by decide) (fun hc => ?_) (fun hc => ?_)
  · have h := pu_t hc h
    cases h
    refine W.widen (k := 0) (n := 0) (Nat.le_of_ble_eq_true rfl) (Nat.le_of_ble_eq_true rfl) ?_
    exact RT 39 ls H locs _ d_Charts_add_39 (Or.inl ⟨rfl, rfl⟩) rfl (hP.sub [0, 1, 2] rfl) (hD.sub [0, 1, 2] (by decide) rfl) hS
  · have h := pu_f hc h
    refine lv_aload_n hx hb d_Charts_add_9 rfl (lv_at hl 0 rfl) ?_
    refine va_get (D := (dC, dI)) (ci := 1) (v := .ref q_o_xs) (C := R_Charts) (T := F_Charts) (N := 3) hx hb hts i_Charts hown hK hP 0 rfl rfl 0 (by decide) (hts _ k_62) (fun _ h9 => h9) rfl d_Charts_add_10 ?_
    refine lv_aload_n hx hb d_Charts_add_13 rfl (lv_at hl 0 rfl) ?_
    refine va_get (D := (dC, dI)) (ci := 1) (v := .int o_held) (C := R_Charts) (T := F_Charts) (N := 3) hx hb hts i_Charts hown hK hP 0 rfl rfl 2 (by decide) (hts _ k_66) (fun _ h9 => h9) rfl d_Charts_add_14 ?_
    refine lv_iload_n hx hb d_Charts_add_17 rfl (lv_at hl 1 rfl) ?_
    obtain ⟨hg, h⟩ := pu_g h
    refine va_iast hx hb hK hP hD hS 1 0 rfl rfl hg d_Charts_add_18 (fun H locs hP hD hS => ?_)
    have hP : va_P (dC, dI) vwCl [(q_o, .inr (1, [.ref q_o_xs, .ref q_o_ys, .int o_held])), (q_o_xs, .inl (cI, o_xs_n, .inl (upd o_xs_f o_held.toNatClampNeg a1))), (q_o_ys, .inl (cI, o_ys_n, .inl o_ys_f))] H := hP
    have hD : va_D A [(q_o, .inr (1, [.ref q_o_xs, .ref q_o_ys, .int o_held])), (q_o_xs, .inl (cI, o_xs_n, .inl (upd o_xs_f o_held.toNatClampNeg a1))), (q_o_ys, .inl (cI, o_ys_n, .inl o_ys_f))] := hD
    refine lv_aload_n hx hb d_Charts_add_19 rfl (lv_at hl 0 rfl) ?_
    refine va_get (D := (dC, dI)) (ci := 1) (v := .ref q_o_ys) (C := R_Charts) (T := F_Charts) (N := 3) hx hb hts i_Charts hown hK hP 0 rfl rfl 1 (by decide) (hts _ k_64) (fun _ h9 => h9) rfl d_Charts_add_20 ?_
    refine lv_aload_n hx hb d_Charts_add_23 rfl (lv_at hl 0 rfl) ?_
    refine va_get (D := (dC, dI)) (ci := 1) (v := .int o_held) (C := R_Charts) (T := F_Charts) (N := 3) hx hb hts i_Charts hown hK hP 0 rfl rfl 2 (by decide) (hts _ k_66) (fun _ h9 => h9) rfl d_Charts_add_24 ?_
    refine lv_iload_n hx hb d_Charts_add_27 rfl (lv_at hl 2 rfl) ?_
    obtain ⟨hg, h⟩ := pu_g h
    refine va_iast hx hb hK hP hD hS 2 0 rfl rfl hg d_Charts_add_28 (fun H locs hP hD hS => ?_)
    have hP : va_P (dC, dI) vwCl [(q_o, .inr (1, [.ref q_o_xs, .ref q_o_ys, .int o_held])), (q_o_xs, .inl (cI, o_xs_n, .inl (upd o_xs_f o_held.toNatClampNeg a1))), (q_o_ys, .inl (cI, o_ys_n, .inl (upd o_ys_f o_held.toNatClampNeg a2)))] H := hP
    have hD : va_D A [(q_o, .inr (1, [.ref q_o_xs, .ref q_o_ys, .int o_held])), (q_o_xs, .inl (cI, o_xs_n, .inl (upd o_xs_f o_held.toNatClampNeg a1))), (q_o_ys, .inl (cI, o_ys_n, .inl (upd o_ys_f o_held.toNatClampNeg a2)))] := hD
    refine lv_aload_n hx hb d_Charts_add_29 rfl (lv_at hl 0 rfl) ?_
    refine lv_dup hx hb d_Charts_add_30 rfl ?_
    refine va_get (D := (dC, dI)) (ci := 1) (v := .int o_held) (C := R_Charts) (T := F_Charts) (N := 3) hx hb hts i_Charts hown hK hP 0 rfl rfl 2 (by decide) (hts _ k_66) (fun _ h9 => h9) rfl d_Charts_add_31 ?_
    refine lv_iconst (v := 1) hx hb d_Charts_add_34 (by decide) ?_
    refine lv_iadd hx hb d_Charts_add_35 ?_
    refine va_put (D := (dC, dI)) (ci := 1) (v := .int (o_held + 1)) (ty := .int) (C := R_Charts) (T := F_Charts) (N := 3) hx hb hts i_Charts t_Charts t_Charts_ok n_Charts hown hK hP hD hS 0 rfl rfl 2 (by decide) (hts _ k_66) (fun _ h9 => h9) rfl (by decide +kernel) rfl rfl (Nat.le_of_ble_eq_true rfl) d_Charts_add_36 (fun H locs hP hD hS => ?_)
    have hP : va_P (dC, dI) vwCl [(q_o, .inr (1, [.ref q_o_xs, .ref q_o_ys, .int (o_held + 1)])), (q_o_xs, .inl (cI, o_xs_n, .inl (upd o_xs_f o_held.toNatClampNeg a1))), (q_o_ys, .inl (cI, o_ys_n, .inl (upd o_ys_f o_held.toNatClampNeg a2)))] H := hP
    have hD : va_D A [(q_o, .inr (1, [.ref q_o_xs, .ref q_o_ys, .int (o_held + 1)])), (q_o_xs, .inl (cI, o_xs_n, .inl (upd o_xs_f o_held.toNatClampNeg a1))), (q_o_ys, .inl (cI, o_ys_n, .inl (upd o_ys_f o_held.toNatClampNeg a2)))] := hD
    cases h
    refine W.widen (k := 0) (n := 0) (Nat.le_of_ble_eq_true rfl) (Nat.le_of_ble_eq_true rfl) ?_
    exact RT 39 ls H locs _ d_Charts_add_39 (Or.inl ⟨rfl, rfl⟩) rfl (hP.sub [0, 1, 2] rfl) (hD.sub [0, 1, 2] (by decide) rfl) hS
