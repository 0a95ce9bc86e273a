/-! THE CLAIM OUT OF ONE WALK OF THE LAW'S BODY. Your part is whole_start (and what it stands on); all else here is the same for every law, but numbers. -/
def R_law : String := "PictureChangeLaw"
def lw_P (b : Addr) (xs : List Int32) (args : Array Value) (s : State) : Prop := args = #[.ref b] ∧ s.IntsAt b xs ∧ xs.length ≤ 2562 ∧ (Jvm.Cond.and given_1 narrow_1).before args s = true
def lw_Q (_ : Array Value) (s : State) (o : Outcome) (t : State) : Prop := o = .returned (some (.int 1)) ∧ Framed s o t [] 601024 7293000
def lw_Z (below : List Frame) (a : Array Value) (s : State) : State → Prop := fun t => ∃ o, t.status = .running ∧ Ended t below o ∧ lw_Q a s o t
/-- the law's own end, with 1 on the stack, nothing written that was there before, its room as the claim has it -/
theorem lw_ret {p : Program} {l : Launch} {e : Env} {s : State} {m : MethodId} {below : List Frame} {meth : Method} {c : Code} {b : Nat} (hx : p.tables.exec = Jvm.exec) (hb : c.code = code) (hr : meth.sig.returnType = ret) (hlocks : meth.locks = false) {pc : Nat} {H : Heap} {ls : Array Slot} (hdg : decode code pc = .ok (.ireturn, 1)) : W p l e room_1 s m #[Value.ref b] below meth c H [] 601024 7293000 (lw_Z below #[Value.ref b] s) (F0 m pc ls [.int 1]) := by
  intro T hT X
  obtain ⟨fs, hret, hrun, hended, hW, hframe⟩ := X.leave (v := some (.int 1)) (hlocks := hlocks) (fun h => by rw [hr] at h; cases h)
  have hmeth' : T.vm.method? m = some meth := X.method'
  refine ⟨T.setFrames fs, ?_, .returned (some (.int 1)), hrun, hended, rfl, ⟨_, rfl⟩, hW, hframe⟩
  jvm_step X.here [X.here.top, hx, hb, hdg, hmeth', hr, ret, narrow_b1]
  (try refine ⟨rfl, ?_⟩); (try refine ⟨rfl, ?_⟩)
  first | (intro acts; rw [hret _ acts rfl rfl rfl]) | rw [hret _ _ rfl rfl rfl]
  exact Steps.refl _
/-- what holds at the law's entry: the machine, the code, the tables' words (any of lw_tbl by 'hts w (by decide +kernel)'), the script of L ints xs at the cell b, what the Statement gives of the start (any of its parts by flat_of_before) -/
def lw_At (p : Program) (s : State) (m : MethodId) (meth : Method) (c : Code) (b L : Nat) (xs : Nat → Int32) : Prop :=
  p.tables.exec = Jvm.exec ∧ c.code = code ∧ meth.sig.returnType = ret ∧ c.maxLocals = 8 ∧ s.vm.findClass R_law = some m.cls ∧ (∀ w ∈ lw_tbl, w.before #[Value.ref b] s = true) ∧ va_X b L xs s s.heap ∧ b < s.heap.size ∧ meth.locks = false ∧ (Jvm.Cond.and given_1 narrow_1).before #[Value.ref b] s = true
-- what the start gives of the tables
theorem st_arr {ty : FieldType} {args : Array Value} {s : State} (h : (Cond.arrayClass ty).before args s = true) (hty : ∀ C, ty ≠ .object C) : ∃ cA : ClassId, ArrOfT s cA ty ∧ va_RA s cA ty := by
  obtain ⟨cA, kA, comp, h1, h2, h3⟩ := Cond.arrayClass_spec h
  refine ⟨cA, fun n z => ⟨fun k h => (by cases h), kA, h2, comp, h3⟩, ?_⟩
  cases ty <;> first | exact h1 | exact absurd rfl (hty _)
theorem st_xw : ∀ E, E < 3 → ∀ w ∈ OA E, w.onTables = true → w ∈ lw_tbl := by decide +kernel
theorem st_str : ∀ q ∈ strs, Cond.stringRef "PictureChange" q.1 q.2 ∈ lw_tbl := by decide +kernel
theorem st_EV {args : Array Value} {s : State} (hts : ∀ w ∈ lw_tbl, w.before args s = true) (hgv : (Jvm.Cond.and given_1 narrow_1).before args s = true) : EV (fun q : Nat => s.heap.size ≤ q) s := by
  have hs := flat_of_before _ hgv
  refine ⟨fun w hw => va_Nw.of (nw_ot w hw) (hts w (List.mem_filter.mp hw).1), fun E hE w hw ho => va_tabs ho rfl (hts w (st_xw E hE w hw ho)), ⟨fun q hq => ?_, va_Nc.of (hs (Cond.not (.castable (exN 1) (exN 0))) (by decide +kernel)), va_Nc.of (hs (Cond.not (.castable (exN 2) (exN 0))) (by decide +kernel)), va_Nc.of (hs (Cond.not (.castable (exN 2) (exN 1))) (by decide +kernel))⟩, ?_⟩
  · have h1 := hts _ (st_str q hq)
    obtain ⟨c0, iS0, hKn⟩ := u_known (C := R_Pic) (T := F_Pic) (N := 12) (n := 12) (ws := gt) (fun w hw => hts w (List.mem_filter.mp hw).1) i_Pic (hts (Cond.instantiable "PictureChange" 12) (by decide +kernel))
    obtain ⟨k, cf, i, a, -, -, -, -, -, h2⟩ := Cond.stringRef_spec (cls := "PictureChange") hKn.2.1 h1
    exact ⟨a, vk_R.of (A := args) h1 h2⟩
  · obtain ⟨aU, hU⟩ := thS_of (n := "UNASSIGNED_STACK") (d := Bundle.steD) (args := args) (hts (Cond.laysStatic Bundle.tN "UNASSIGNED_STACK" Bundle.steD) (by decide +kernel)) (hs (Cond.isRef (.static Bundle.tN "UNASSIGNED_STACK" Bundle.steD)) (by decide +kernel))
    obtain ⟨aN, hN⟩ := thS_of (n := "SUPPRESSED_SENTINEL") (d := Bundle.listD) (args := args) (hts (Cond.laysStatic Bundle.tN "SUPPRESSED_SENTINEL" Bundle.listD) (by decide +kernel)) (hs (Cond.isRef (.static Bundle.tN "SUPPRESSED_SENTINEL" Bundle.listD)) (by decide +kernel))
    exact ⟨aU, aN, hU, hN, Nat.not_le.mpr (thS_lt hU), Nat.not_le.mpr (thS_lt hN)⟩
theorem st_K {args : Array Value} {s : State} (hts : ∀ w ∈ lw_tbl, w.before args s = true) : ∃ (dC : Nat → ClassId) (dI : Nat → Nat → Nat) (cI cJ cZ : ClassId), va_K (dC, dI) vwCl [(cI, .int), (cJ, .long), (cZ, .boolean)] s := by
  have hg : ∀ w ∈ gt, w.before args s = true := fun w hw => hts w (List.mem_filter.mp hw).1
  obtain ⟨c0, iS0, hKn0⟩ := u_known (C := R_Pic) (T := F_Pic) (N := 12) (n := 12) hg i_Pic (hts (Cond.instantiable "PictureChange" 12) (by decide +kernel))
  obtain ⟨c1, iS1, hKn1⟩ := u_known (C := R_Charts) (T := F_Charts) (N := 3) (n := 3) hg i_Charts (hts (Cond.instantiable "PictureChange$Charts" 3) (by decide +kernel))
  obtain ⟨c2, iS2, hKn2⟩ := u_known (C := R_Days) (T := F_Days) (N := 3) (n := 3) hg i_Days (hts (Cond.instantiable "PictureChange$Days" 3) (by decide +kernel))
  obtain ⟨c3, iS3, hKn3⟩ := u_known (C := R_Fraction) (T := F_Fraction) (N := 2) (n := 2) hg i_Fraction (hts (Cond.instantiable "PictureChange$Fraction" 2) (by decide +kernel))
  obtain ⟨c4, iS4, hKn4⟩ := u_known (C := R_Noise) (T := F_Noise) (N := 5) (n := 5) hg i_Noise (hts (Cond.instantiable "PictureChange$Noise" 5) (by decide +kernel))
  obtain ⟨c5, iS5, hKn5⟩ := u_known (C := R_Shift) (T := F_Shift) (N := 4) (n := 4) hg i_Shift (hts (Cond.instantiable "PictureChange$Shift" 4) (by decide +kernel))
  obtain ⟨c6, iS6, hKn6⟩ := u_known (C := R_Spots) (T := F_Spots) (N := 10) (n := 10) hg i_Spots (hts (Cond.instantiable "PictureChange$Spots" 10) (by decide +kernel))
  obtain ⟨c7, iS7, hKn7⟩ := u_known (C := R_Mod) (T := F_Mod) (N := 24) (n := 24) hg i_Mod (hts (Cond.instantiable "PictureChangeModel" 24) (by decide +kernel))
  obtain ⟨cI, aI, rI⟩ := st_arr (ty := .int) (hts (.arrayClass .int) (by decide +kernel)) (fun C h => by cases h)
  obtain ⟨cJ, aJ, rJ⟩ := st_arr (ty := .long) (hts (.arrayClass .long) (by decide +kernel)) (fun C h => by cases h)
  obtain ⟨cZ, aZ, rZ⟩ := st_arr (ty := .boolean) (hts (.arrayClass .boolean) (by decide +kernel)) (fun C h => by cases h)
  refine ⟨fun k => match k with | 0 => c0 | 1 => c1 | 2 => c2 | 3 => c3 | 4 => c4 | 5 => c5 | 6 => c6 | _ => c7, fun k => match k with | 0 => iS0 | 1 => iS1 | 2 => iS2 | 3 => iS3 | 4 => iS4 | 5 => iS5 | 6 => iS6 | _ => iS7, cI, cJ, cZ, ?_, ?_⟩
  · intro k q hq
    match k, hq with
    | 0, hq => cases hq; exact hKn0
    | 1, hq => cases hq; exact hKn1
    | 2, hq => cases hq; exact hKn2
    | 3, hq => cases hq; exact hKn3
    | 4, hq => cases hq; exact hKn4
    | 5, hq => cases hq; exact hKn5
    | 6, hq => cases hq; exact hKn6
    | 7, hq => cases hq; exact hKn7
    | k + 8, hq => simp [vwCl] at hq
  · intro k q hq
    match k, hq with
    | 0, hq => cases hq; exact ⟨aI, rI⟩
    | 1, hq => cases hq; exact ⟨aJ, rJ⟩
    | 2, hq => cases hq; exact ⟨aZ, rZ⟩
    | k + 3, hq => simp at hq
set_option maxHeartbeats 4000000 in
theorem whole_start {p : Program} {e : Env} {s : State} {m : MethodId} {below : List Frame} {meth : Method} {c : Code} (l : Launch) (hst : l.stackTraces = false) {b L : Nat} {xs : Nat → Int32} (hL : L ≤ 2562) (hg : p_law_good L xs) (C0 : lw_At p s m meth c b L xs) : W p l e room_1 s m #[Value.ref b] below meth c s.heap [] 0 0 (lw_Z below #[Value.ref b] s) (entryFrame m ([Value.ref b] : List Value).toArray 8) := by
  obtain ⟨hx, hb, hr, hml, hown, hts, hX, hbl, hlocks, hgv⟩ := C0
  obtain ⟨dC, dI, cI, cJ, cZ, hK⟩ := st_K hts
  have hl := lv_entry ([.ref b]) (n := 8) (Nat.le_of_ble_eq_true rfl)
  rw [lg_entry_eq]
  generalize (lg_sl ([.ref b]) ++ List.replicate (8 - (lg_sl ([.ref b])).length) Slot.unset).toArray = ls at hl ⊢
  have hl : lv_has ls 8 [(0, .ref b)] := hl
  refine law_start (A := fun q : Nat => s.heap.size ≤ q) dC dI cI cJ cZ hst hx hb hml hown (fun w hw => hts w (List.mem_filter.mp hw).1) (fun _ h => h) hX hbl (Nat.not_le.mpr hbl) hK (st_EV hts hgv) (fun H locs ls cells slots hS hc hs => ?_) hL hg s.heap [] ls hl (fun k q h => by simp at h) ⟨fun i j p q h => by simp at h, fun k q h => by simp at h⟩ va_S.rf
  refine va_forget (fun q hq => hS.2.2 q hq) ?_
  refine W.widen (k := 601024) (n := 7293000) hc hs ?_
  exact lw_ret hx hb hr hlocks d_Law_law_1207
