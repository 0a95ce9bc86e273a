/-! THE PURE SIDE: guards, loops. A method's function answers in Option: none where an array's place or a divisor is out of range, or a loop doesn't end. -/
def pu_it {S E : Type} (f : S → Option (S ⊕ E)) : Nat → S → Option E
  | 0, _ => none
  | n + 1, s => match f s with
    | none => none
    | some (.inl s') => pu_it f n s'
    | some (.inr e) => some e
def pu_k {S E : Type} (f : S → Option (S ⊕ E)) (n : Nat) (e : E) (r : S ⊕ E) : Prop := match r with
  | .inl s' => pu_it f n s' = some e
  | .inr e' => e' = e
theorem pu_it_0 {S E : Type} {f : S → Option (S ⊕ E)} {s : S} {e : E} (h : pu_it f 0 s = some e) : False := by
  unfold pu_it at h
  cases h
theorem pu_it_succ {S E : Type} {f : S → Option (S ⊕ E)} {n : Nat} {s : S} {e : E} (h : pu_it f (n + 1) s = some e) : ∃ r, f s = some r ∧ pu_k f n e r := by
  unfold pu_it at h
  cases hf : f s with
  | none => rw [hf] at h; cases h
  | some r =>
    rw [hf] at h
    cases r with
    | inl s' => exact ⟨_, rfl, h⟩
    | inr e' => exact ⟨_, rfl, Option.some.inj h⟩
noncomputable def pu_loop {S E : Type} (f : S → Option (S ⊕ E)) (s : S) : Option E :=
  @dite _ (∃ e n, pu_it f n s = some e) (Classical.propDecidable _) (fun h => some (Classical.choose h)) (fun _ => none)
theorem pu_loop_it {S E : Type} {f : S → Option (S ⊕ E)} {s : S} {e : E} (h : pu_loop f s = some e) : ∃ n, pu_it f n s = some e := by
  unfold pu_loop at h
  split at h
  · rename_i hx
    cases h
    exact Classical.choose_spec hx
  · cases h
noncomputable def pu_gd {α : Type} (c : Prop) (x : Option α) : Option α := @ite _ c (Classical.propDecidable c) x none
theorem pu_g {α : Type} {c : Prop} {x : Option α} {r : α} (h : pu_gd c x = some r) : c ∧ x = some r := by
  unfold pu_gd at h
  split at h
  · rename_i hc
    exact ⟨hc, h⟩
  · cases h
theorem pu_bd {α β : Type} {x : Option α} {k : α → Option β} {r : β} (h : x.bind k = some r) : ∃ u, x = some u ∧ k u = some r := by
  cases x with
  | none => cases h
  | some u => exact ⟨u, rfl, h⟩
theorem pu_t {α : Type} {c : Prop} [Decidable c] {a b : Option α} {r : α} (hc : c) (h : (if c then a else b) = some r) : a = some r := by
  rw [if_pos hc] at h
  exact h
theorem pu_f {α : Type} {c : Prop} [Decidable c] {a b : Option α} {r : α} (hc : ¬ c) (h : (if c then a else b) = some r) : b = some r := by
  rw [if_neg hc] at h
  exact h
/-! WHAT EVERY METHOD MAY TAKE FROM ITS CALLER beside its world: nest words, the words that a throw needs, the String constants, Throwable's two static fields (their cell is none of the world's) -/
def nwAll (U : State) : Prop := ∀ w ∈ nw_tbl, va_Nw w U
def xNms : List String := ["java/lang/RuntimeException", "java/lang/Exception"]
/-- the exceptions by number: name, entry of its constructor, entry of its class in PictureChange's pool -/
def exN : Nat → String
  | 0 => "java/lang/IndexOutOfBoundsException"
  | 1 => "java/lang/IllegalArgumentException"
  | _ => "java/lang/IllegalStateException"
def exI : Nat → Nat
  | 0 => 179
  | 1 => 93
  | _ => 136
def OA (E : Nat) : List Cond := Bundle.ownAtoms "PictureChange" (exI E) (exN E) xNms
def xwT (U : State) : Prop := ∀ E, E < 3 → ∀ w ∈ OA E, w.onTables = true → w.before #[] U = true
def strs : List (Nat × String) := [(235, "there is no such cell"), (237, "the value is not 0 .. 255"), (91, "most is not 0 .. 3"), (239, "it is neither 0 nor 1"), (134, "there are twelve charts"), (177, "there is no such spot"), (180, "there is no such what"), (199, "the day is not 0 .. 10000 or not above the latest one"), (202, "there are thirty days")]
def srefs (U : State) : Prop := (∀ q ∈ strs, ∃ a, vk_R "PictureChange" q.1 q.2 a U) ∧ va_Nc (exN 1) (exN 0) U ∧ va_Nc (exN 2) (exN 0) U ∧ va_Nc (exN 2) (exN 1) U
/-- a static field of Throwable that holds a reference or null: where it lies -/
def thS (n d : String) (aT : Nat) (U : State) (H : Heap) : Prop := ∃ (c : ClassId) (k : Class) (i : Nat) (f : Field) (cell : Cell) (v : Value), U.vm.findClass Bundle.tN = some c ∧ U.fieldFound? Bundle.tN n d = some (c, k, i, f) ∧ f.isStatic = true ∧ k.statics = some aT ∧ H[aT]? = some cell ∧ cell.vm.isStatics = true ∧ cell.cls = c ∧ f.slot < cell.slots.size ∧ k.staticTypes[f.slot]? = some f.type ∧ cell.slots[f.slot]? = some v ∧ v.isRef = true
theorem thS_kept {n d : String} {aT : Nat} {U : State} {H H1 : Heap} (h : thS n d aT U H) (hq : H1[aT]? = H[aT]?) : thS n d aT U H1 := by
  obtain ⟨c, k, i, f, cell, v, h1, h2, h3, h4, h5, h6⟩ := h
  exact ⟨c, k, i, f, cell, v, h1, h2, h3, h4, by rw [hq]; exact h5, h6⟩
theorem thS_moved {n d : String} {aT : Nat} {u U : State} {H : Heap} (hvm : u.vm.Alike U.vm) (h : thS n d aT u H) : thS n d aT U H := by
  obtain ⟨c, k, i, f, cell, v, h1, h2, h3, h4, h5, h6, h7, h8, h9, h10⟩ := h
  obtain ⟨k', hi', he⟩ := State.fieldFound?_setVm hvm h2
  exact ⟨c, k', i, f, cell, v, by rw [hvm.findClass]; exact h1, hi', h3, by rw [he]; exact h4, h5, h6, h7, h8, by rw [he]; exact h9, h10⟩
theorem thS_lt {n d : String} {aT : Nat} {U : State} {H : Heap} (h : thS n d aT U H) : aT < H.size := by
  obtain ⟨c, k, i, f, cell, v, h1, h2, h3, h4, h5, h6⟩ := h
  exact (Array.getElem?_eq_some_iff.mp h5).1
theorem thS_lays {n d : String} {aT : Nat} {s : State} {args : Array Value} (h : thS n d aT s s.heap) : (Cond.laysStatic Bundle.tN n d).before args s = true := by
  obtain ⟨c, k, i, f, cell, v, h1, h2, h3, h4, h5, h6, h7, h8, h9, -⟩ := h
  show (Cond.laysStatic Bundle.tN n d).holds args s none s [] = true
  exact Cond.laysStatic_of h1 h2 h3 h4 h5 h6 h7 h8 h9
theorem thS_ref {n d : String} {aT : Nat} {s : State} {args : Array Value} (h : thS n d aT s s.heap) : (Cond.isRef (.static Bundle.tN n d)).before args s = true := by
  obtain ⟨c, k, i, f, cell, v, h1, h2, h3, h4, h5, h6, h7, h8, h9, h10, h11⟩ := h
  have he : (Term.static Bundle.tN n d).eval args s none [] s = some v := by
    simp [Term.eval, State.fieldNamed?, h2, h3, h4, h5, h6, h10]
  simp only [Cond.before, Cond.holds, Cond.value, he]
  cases v <;> simp_all [Value.isRef]
theorem thS_of {n d : String} {s : State} {args : Array Value} (hl : (Cond.laysStatic Bundle.tN n d).before args s = true) (h : (Cond.isRef (.static Bundle.tN n d)).before args s = true) : ∃ aT, thS n d aT s s.heap := by
  obtain ⟨c, k, i, f, a, cell, h1, h2, h3, h4, h5, h6, h7, h8, h9⟩ := Cond.laysStatic_spec hl
  have he : (Term.static Bundle.tN n d).eval args s none [] s = some (cell.slots[f.slot]) := by
    simp [Term.eval, State.fieldNamed?, h2, h3, h4, h5, h6, h8]
  simp only [Cond.before, Cond.holds, Cond.value, he] at h
  refine ⟨a, c, k, i, f, cell, cell.slots[f.slot], h1, h2, h3, h4, h5, h6, h7, h8, h9, by simp [h8], ?_⟩
  revert h
  generalize cell.slots[f.slot] = v
  cases v <;> simp [Value.isRef]
def thX (A : Nat → Prop) (U : State) (H : Heap) : Prop := ∃ aU aN : Nat, thS "UNASSIGNED_STACK" Bundle.steD aU U H ∧ thS "SUPPRESSED_SENTINEL" Bundle.listD aN U H ∧ ¬ A aU ∧ ¬ A aN
def EV (A : Nat → Prop) (U : State) : Prop := nwAll U ∧ xwT U ∧ srefs U ∧ thX A U U.heap
theorem xwT_warm {s U : State} (hW : s.WarmedH U.vm) (h : xwT s) : xwT U := fun E hE w hw ho => by
  have hk : w.keepsFace = true := Bundle.ownAtoms_keepsFace w hw
  have h1 : w.before #[] (s.setVm U.vm) = true := Cond.before_shiftedFace (State.Shifted.of_warmed hW) w hk (h E hE w hw ho)
  exact va_tabs (u := s.setVm U.vm) (U := U) ho rfl h1
theorem EV_to {A B : Nat → Prop} {s U : State} (hW : s.WarmedH U.vm) (h : EV A s) (hk : ∀ q : Nat, q < s.heap.size → ¬ A q → U.heap[q]? = s.heap[q]?) (hAB : ∀ q, B q → A q) : EV B U := by
  obtain ⟨h1, h2, h3, aU, aN, h4, h5, h6, h7⟩ := h
  exact ⟨fun w hw => nw_warm w hw hW (h1 w hw), xwT_warm hW h2, ⟨fun q hq => (h3.1 q hq).imp (fun _ z => vk_R.warm hW z), va_Nc.moved hW.alike h3.2.1, va_Nc.moved hW.alike h3.2.2.1, va_Nc.moved hW.alike h3.2.2.2⟩, aU, aN, thS_kept (thS_moved hW.alike h4) (hk aU (thS_lt h4) h6), thS_kept (thS_moved hW.alike h5) (hk aN (thS_lt h5) h7), fun z => h6 (hAB _ z), fun z => h7 (hAB _ z)⟩
theorem EV_same {A : Nat → Prop} {s U : State} (hv : U.vm = s.vm) (hh : U.heap = s.heap) (h : EV A s) : EV A U :=
  EV_to (by rw [hv]; exact State.WarmedH.refl s) h (fun q _ _ => by rw [hh]) (fun _ z => z)

/-! THE CONTRACT: with the world w0 a method returns rv, and its world is then one that P1 names -/
def ctP (D : va_G) (tys : List (ClassId × FieldType)) (w0 : va_W) (sz : Nat) (av : List Value) : Array Value → State → Prop :=
  va_Pc av (fun U => U.heap.size = sz ∧ va_P D vwCl w0 U.heap ∧ va_K D vwCl tys U ∧ va_D (fun _ => True) w0 ∧ EV (va_A w0 sz) U)
def ctQ (D : va_G) (w0 : va_W) (P1 : va_W → Prop) (rv : Option Value) (sz : Nat) : Array Value → State → Outcome → State → Prop := fun _ st o t =>
  o = .returned rv ∧ (∃ w1, P1 w1 ∧ va_P D vwCl w1 t.heap ∧ va_D (va_A w0 sz) w1) ∧ va_F (va_A w0 sz) st t
def ct (l : Launch) (y : MethodName) (ws : List Cond) (rm : Room) (D : va_G) (tys : List (ClassId × FieldType)) (av : List Value) (w0 : va_W) (P1 : va_W → Prop) (rv : Option Value) : Prop :=
  ∀ sz, Met l y ws rm (ctP D tys w0 sz av) (ctQ D w0 P1 rv sz) rm.cells rm.slots (va_A w0 sz)
def retOK (cc : ByteArray) (pc : Nat) (rv : Option Value) : Prop := match rv with
  | none => decode cc pc = .ok (.return_, 1)
  | some (.int _) => decode cc pc = .ok (.ireturn, 1)
  | some (.long _) => decode cc pc = .ok (.lreturn, 1)
  | _ => False
def narOK (ret : Option FieldType) (rv : Option Value) : Prop := (ret = none ∧ rv = none) ∨ (ret = some .int ∧ ∃ v, rv = some (.int v)) ∨ (ret = some .long ∧ ∃ v, rv = some (.long v)) ∨ (ret = some .boolean ∧ ∃ v, rv = some (.int v) ∧ narrow .boolean (.int v) = .int v)
theorem ct_blind {D : va_G} {tys : List (ClassId × FieldType)} {w0 : va_W} {sz : Nat} {av : List Value} : FrameBlind (ctP D tys w0 sz av) := fun a U g mk q => by
  obtain ⟨q0, q1, qP, qK, qD, qN⟩ := q
  exact ⟨q0, q1, qP, va_K.moved (u := U) (U := U.calling g mk a) (Vm.Alike.refl U.vm) qK, qD, EV_same (s := U) (U := U.calling g mk a) rfl rfl qN⟩
set_option maxHeartbeats 1000000 in
theorem ct_of {l : Launch} {D : va_G} {tys : List (ClassId × FieldType)} {y : MethodName} {ws : List Cond} {rm : Room} {av : List Value} {w0 : va_W} {P1 : va_W → Prop} {rv : Option Value} {cc : ByteArray} {maxL : Nat} {ret : Option FieldType} {lv : List (Nat × Value)}
    (hy : plainName y.cls = true) (hw : ws = Cond.code y cc maxL ret :: gt) (hlv : lv_args 0 av = lv) (hsz : Nat.ble (lg_sl av).length maxL = true)
    (body : ∀ (p : Program) (e : Env) (s : State) (m : MethodId) (args : Array Value) (below : List Frame) (meth : Method) (c : Code) (A : Nat → Prop) (Q : State → Prop) (H : Heap) (locs : List Loc), p.tables.exec = Jvm.exec → c.code = cc → c.maxLocals = maxL → s.vm.findClass y.cls = some m.cls → (∀ w ∈ gt, w.before args s = true) → meth.name = y.name →
      (∀ q, s.heap.size ≤ q → A q) → va_K D vwCl tys s → EV A s → va_P D vwCl w0 H → va_D A w0 → va_S A s.heap H locs →
      (∀ (pc : Nat) (ls : Array Slot) (H : Heap) (locs : List Loc) (w : va_W), retOK cc pc rv → narOK ret rv → P1 w → va_P D vwCl w H → va_D A w → va_S A s.heap H locs → W p l e rm s m args below meth c H locs rm.cells rm.slots Q (F0 m pc ls rv.toList)) →
      ∀ ls : Array Slot, lv_has ls maxL lv → W p l e rm s m args below meth c H locs 0 0 Q (F0 m 0 ls [])) : ct l y ws rm D tys av w0 P1 rv := by
  intro sz
  refine Met.ofW (cc := cc) (maxL := maxL) (ret := ret) hy hw ?_
  intro p e s m args below meth c s₁ B hml hv
  obtain ⟨rfl, hsz1, hP, hK, hD0, hN⟩ := hv
  have hx := B.exec
  have hb := B.bytes
  have hr := B.returns
  have hts0 := atoms_spec (ws := ws) B.pre
  have hts : ∀ w ∈ gt, w.before av.toArray s = true := fun w hw' => hts0 w (by rw [hw]; exact List.mem_cons_of_mem _ hw')
  have hown : s.vm.findClass y.cls = some m.cls := findClass_of_methodNamed B.named
  have hlocks := B.notSynchronized
  have hin : meth.name = y.name := (name_of_methodNamed B.named B.method).1
  subst hsz1
  have hD := hD0.self (sz := s.heap.size)
  have hA : ∀ q : Nat, s.heap.size ≤ q → va_A w0 s.heap.size q := fun q h => Or.inr h
  have hl := lv_entry av (n := maxL) (Nat.le_of_ble_eq_true hsz)
  rw [lg_entry_eq]
  generalize (lg_sl av ++ List.replicate (maxL - (lg_sl av).length) Slot.unset).toArray = ls at hl ⊢
  rw [hlv] at hl
  refine body p e s m _ below meth c (va_A w0 s.heap.size) _ s.heap [] hx hb hml hown hts hin hA hK hN hP hD va_S.rf ?_ ls hl
  intro pc ls H locs w hro hna hp1 hP1 hD1 hS1
  have fin : ∀ t : State, t.heap = H → s.WarmedH t.vm → ctQ D w0 P1 rv s.heap.size av.toArray s (.returned rv) t := fun t ht hW => ⟨rfl, ⟨w, hp1, by rw [ht]; exact hP1, hD1⟩, hS1.F ht⟩
  rcases hna with ⟨rfl, rfl⟩ | ⟨rfl, v, rfl⟩ | ⟨rfl, v, rfl⟩ | ⟨rfl, v, rfl, hn⟩
  · exact W.vret hx hb hr fin hS1.2.2 hro
  · exact W.iret hx hb hr fin hS1.2.2 hro
  · exact W.lret hx hb hr fin hS1.2.2 hro
  · exact W.zret hx hb hr hn fin hS1.2.2 hro
section CC
variable {p : Program} {l : Launch} {e : Env} {R : Room} {s : State} {m : MethodId} {args : Array Value} {below : List Frame} {meth : Method} {c : Code} {H : Heap} {locs : List Loc} {cells slots : Nat} {Q : State → Prop}
variable {y : MethodName} {bytes cc : ByteArray} {maxL nL n index pc : Nat} {ret : Option FieldType} {ws : List Cond} {rm : Room} {own C : String} {b : Addr} {As rest st0 : List Value} {ls : Array Slot}
variable {D : va_G} {tys : List (ClassId × FieldType)} {A : Nat → Prop} {W0 w0 wr : va_W} {P1 : va_W → Prop} {rv : Option Value}
set_option maxHeartbeats 1000000 in
theorem cc_run {a : Array Value} (hr : va_Run p l e R s m args below meth c H locs cells slots rm.cells rm.slots (F0 m pc ls st0) rest (ctQ D w0 P1 rv H.size a) (va_A w0 H.size))
    (hP : va_P D vwCl W0 H) (hD : va_D A W0) (hS : va_S A s.heap H locs) (hA : ∀ q, s.heap.size ≤ q → A q) (isC isR : List Nat) (hC : isC.map (fun i => W0[i]?) = w0.map some) (hR : isR.map (fun i => W0[i]?) = wr.map some) (hn : va_nd isR = true) (hdis : ∀ i ∈ isR, i ∉ isC)
    (kk : ∀ (w1 : va_W) (H1 : Heap) (locs1 : List Loc), P1 w1 → va_P D vwCl (wr ++ w1) H1 → va_D A (wr ++ w1) → va_S A s.heap H1 locs1 → W p l e R s m args below meth c H1 locs1 (cells + rm.cells) (slots + rm.slots) Q (F0 m (pc + 3) ls (rv.toList ++ rest))) : W p l e R s m args below meth c H locs cells slots Q (F0 m pc ls st0) := by
  intro T hT X
  have hF := va_free (wc := w0) hD hS hA isC hC
  obtain ⟨v, st₀, t, T', L, h0, X', hL, e1, e2, ⟨hv, ⟨w1, hp1, hP1, hD1⟩, hz, hk⟩, st⟩ := hr T hT X
  cases hv
  rw [h0] at hz hk
  have hk1 : ∀ q : Nat, q < H.size → ¬ va_A w0 H.size q → T'.heap[q]? = H[q]? := fun q h1 h2 => by rw [e1]; exact hk q h1 h2
  have hP1' : va_P D vwCl w1 T'.heap := by rw [e1]; exact hP1
  obtain ⟨hPn, hDn⟩ := va_join (wr := wr) (w1 := w1) hP hD isC isR hC hR hn hdis hk1 hF hP1' hD1
  obtain ⟨t2, a1, b1⟩ := kk w1 T'.heap (locs ++ L) hp1 hPn hDn
    ⟨Nat.le_trans hS.1 (by rw [e1]; exact hz), fun q h1 h2 => by rw [hk1 q (Nat.lt_of_lt_of_le h1 hS.1) (fun z => h2 (hF q z))]; exact hS.2.1 q h1 h2, fun q hq => by
      rcases List.mem_append.mp hq with h | h
      · exact hS.2.2 q h
      · exact hF _ (hL q h)⟩ T' rfl X'
  exact ⟨t2, st t2 a1, b1⟩
theorem cc_at {av : List Value} (hK : va_K D vwCl tys s) (hN : EV A s) (hP : va_P D vwCl W0 H) (hD : va_D A W0) (hS : va_S A s.heap H locs) (hA : ∀ q, s.heap.size ≤ q → A q) (isC : List Nat) (hC : isC.map (fun i => W0[i]?) = w0.map some) (hnC : va_nd isC = true) :
    ∀ U : State, U.heap = H → s.WarmedH U.vm → ctP D tys w0 H.size av av.toArray U := fun U hU hW => by
  have hC' : isC.filterMap (fun i => W0[i]?) = w0 := by
    have h1 : isC.filterMap (fun i => W0[i]?) = (isC.map (fun i => W0[i]?)).filterMap id := by rw [List.filterMap_map]; rfl
    rw [h1, hC, List.filterMap_map]
    simp
  exact ⟨rfl, by rw [hU], by rw [hU]; exact hP.sub isC hC', va_K.moved hW.alike hK, (hD.sub isC hnC hC).weaken (fun _ _ _ _ => trivial), EV_to hW hN (fun q h1 h2 => by rw [hU]; exact hS.2.1 q h1 h2) (va_free (wc := w0) hD hS hA isC hC)⟩
theorem cc_V (F : CallFix p m c cc nL s args gt own) (hM : ct l y ws rm D tys (.ref b :: As) w0 P1 rv) (cw : CallW R s args own C index y bytes maxL ret ws rm rm.cells rm.slots n) (hK : va_K D vwCl tys s) (hN : EV A s)
    (hP : va_P D vwCl W0 H) (hD : va_D A W0) (hS : va_S A s.heap H locs) (hA : ∀ q, s.heap.size ≤ q → A q) (isC isR : List Nat) (hC : isC.map (fun i => W0[i]?) = w0.map some) (hR : isR.map (fun i => W0[i]?) = wr.map some) (hnC : va_nd isC = true) (hn : va_nd isR = true) (hdis : ∀ i ∈ isR, i ∉ isC)
    (ci : Nat) {T : u_T} {N : Nat} {fs : List Value} (hc : vwCl[ci]? = some (C, T, N)) (he : w0[0]? = some (b, .inr (ci, fs))) (hlen : As.length = n) (hsz : ls.size = nL) (hst : st0 = As.reverse ++ .ref b :: rest) (hcat : (rest.map fun v => v.category).sum ≤ 8) (hd : decode cc pc = .ok (.invokevirtual index, 3)) (hf : cells + rm.cells ≤ R.cells ∧ slots + rm.slots ≤ R.slots)
    (kk : ∀ (w1 : va_W) (H1 : Heap) (locs1 : List Loc), P1 w1 → va_P D vwCl (wr ++ w1) H1 → va_D A (wr ++ w1) → va_S A s.heap H1 locs1 → W p l e R s m args below meth c H1 locs1 (cells + rm.cells) (slots + rm.slots) Q (F0 m (pc + 3) ls (rv.toList ++ rest))) : W p l e R s m args below meth c H locs cells slots Q (F0 m pc ls st0) := by
  have hC' : isC.filterMap (fun i => W0[i]?) = w0 := by
    have h1 : isC.filterMap (fun i => W0[i]?) = (isC.map (fun i => W0[i]?)).filterMap id := by rw [List.filterMap_map]; rfl
    rw [h1, hC, List.filterMap_map]
    simp
  exact cc_run (va_runV (As := As) (rest := rest) F (hM H.size) cw ⟨ct_blind, va_recv hK (hP.sub isC hC') hc he, cc_at hK hN hP hD hS hA isC hC hnC⟩ rfl hlen hsz hst (lv_room hcat) hd hf) hP hD hS hA isC isR hC hR hn hdis kk
theorem cc_S (F : CallFix p m c cc nL s args gt own) (hM : ct l y ws rm D tys As w0 P1 rv) (cw : CallB R s args own index y bytes maxL ret ws rm rm.cells rm.slots n ∧ (Cond.static y).before args s = true) (hK : va_K D vwCl tys s) (hN : EV A s)
    (hP : va_P D vwCl W0 H) (hD : va_D A W0) (hS : va_S A s.heap H locs) (hA : ∀ q, s.heap.size ≤ q → A q) (isC isR : List Nat) (hC : isC.map (fun i => W0[i]?) = w0.map some) (hR : isR.map (fun i => W0[i]?) = wr.map some) (hnC : va_nd isC = true) (hn : va_nd isR = true) (hdis : ∀ i ∈ isR, i ∉ isC)
    (hlen : As.length = n) (hsz : ls.size = nL) (hst : st0 = As.reverse ++ rest) (hcat : (rest.map fun v => v.category).sum ≤ 8) (hd : decode cc pc = .ok (.invokestatic index, 3)) (hf : cells + rm.cells ≤ R.cells ∧ slots + rm.slots ≤ R.slots)
    (kk : ∀ (w1 : va_W) (H1 : Heap) (locs1 : List Loc), P1 w1 → va_P D vwCl (wr ++ w1) H1 → va_D A (wr ++ w1) → va_S A s.heap H1 locs1 → W p l e R s m args below meth c H1 locs1 (cells + rm.cells) (slots + rm.slots) Q (F0 m (pc + 3) ls (rv.toList ++ rest))) : W p l e R s m args below meth c H locs cells slots Q (F0 m pc ls st0) :=
  cc_run (va_runS (As := As) (rest := rest) F (hM H.size) cw ⟨ct_blind, cc_at hK hN hP hD hS hA isC hC hnC⟩ rfl hlen hsz hst (lv_room hcat) hd hf) hP hD hS hA isC isR hC hR hn hdis kk
theorem cc_I (F : CallFix p m c cc nL s args gt own) (hM : ct l y ws rm D tys (.ref b :: As) w0 P1 rv) (cw : CallB R s args own index y bytes maxL none ws rm rm.cells rm.slots n ∧ y.name = "<init>" ∧ (Cond.instanceMethod y).before args s = true) (hK : va_K D vwCl tys s) (hN : EV A s)
    (hP : va_P D vwCl W0 H) (hD : va_D A W0) (hS : va_S A s.heap H locs) (hA : ∀ q, s.heap.size ≤ q → A q) (isC isR : List Nat) (hC : isC.map (fun i => W0[i]?) = w0.map some) (hR : isR.map (fun i => W0[i]?) = wr.map some) (hnC : va_nd isC = true) (hn : va_nd isR = true) (hdis : ∀ i ∈ isR, i ∉ isC)
    (hlen : As.length = n) (hsz : ls.size = nL) (hst : st0 = As.reverse ++ .ref b :: rest) (hcat : (rest.map fun v => v.category).sum ≤ 8) (hd : decode cc pc = .ok (.invokespecial index, 3)) (hf : cells + rm.cells ≤ R.cells ∧ slots + rm.slots ≤ R.slots)
    (kk : ∀ (w1 : va_W) (H1 : Heap) (locs1 : List Loc), P1 w1 → va_P D vwCl (wr ++ w1) H1 → va_D A (wr ++ w1) → va_S A s.heap H1 locs1 → W p l e R s m args below meth c H1 locs1 (cells + rm.cells) (slots + rm.slots) Q (F0 m (pc + 3) ls (rv.toList ++ rest))) : W p l e R s m args below meth c H locs cells slots Q (F0 m pc ls st0) :=
  cc_run (va_runI (As := As) (rest := rest) F (hM H.size) cw ⟨ct_blind, cc_at hK hN hP hD hS hA isC hC hnC⟩ rfl hlen hsz hst (lv_room hcat) hd hf) hP hD hS hA isC isR hC hR hn hdis kk
theorem cc_IN {host : String} (F : CallFix p m c cc nL s args gt own) (hM : ct l y ws rm D tys (.ref b :: As) w0 P1 rv) (cw : va_CN R s args own index y host bytes maxL none ws rm rm.cells rm.slots n ∧ y.name = "<init>" ∧ (Cond.instanceMethod y).before args s = true) (hK : va_K D vwCl tys s) (hN : EV A s)
    (hP : va_P D vwCl W0 H) (hD : va_D A W0) (hS : va_S A s.heap H locs) (hA : ∀ q, s.heap.size ≤ q → A q) (isC isR : List Nat) (hC : isC.map (fun i => W0[i]?) = w0.map some) (hR : isR.map (fun i => W0[i]?) = wr.map some) (hnC : va_nd isC = true) (hn : va_nd isR = true) (hdis : ∀ i ∈ isR, i ∉ isC)
    (hlen : As.length = n) (hsz : ls.size = nL) (hst : st0 = As.reverse ++ .ref b :: rest) (hcat : (rest.map fun v => v.category).sum ≤ 8) (hd : decode cc pc = .ok (.invokespecial index, 3)) (hf : cells + rm.cells ≤ R.cells ∧ slots + rm.slots ≤ R.slots)
    (kk : ∀ (w1 : va_W) (H1 : Heap) (locs1 : List Loc), P1 w1 → va_P D vwCl (wr ++ w1) H1 → va_D A (wr ++ w1) → va_S A s.heap H1 locs1 → W p l e R s m args below meth c H1 locs1 (cells + rm.cells) (slots + rm.slots) Q (F0 m (pc + 3) ls (rv.toList ++ rest))) : W p l e R s m args below meth c H locs cells slots Q (F0 m pc ls st0) :=
  cc_run (va_runIN (As := As) (rest := rest) F (hM H.size) cw ⟨ct_blind, cc_at hK hN hP hD hS hA isC hC hnC⟩ rfl hlen hsz hst (lv_room hcat) hd hf) hP hD hS hA isC isR hC hR hn hdis kk
end CC
theorem va_RA_int {U : State} {a b : ClassId} (h1 : va_RA U a .int) (h2 : va_RA U b .int) : a = b := by
  have e1 : U.vm.findClass ("[" ++ FieldType.int.toString) = some a := h1
  have e2 : U.vm.findClass ("[" ++ FieldType.int.toString) = some b := h2
  exact Option.some.inj (e1.symm.trans e2)
theorem va_RA_long {U : State} {a b : ClassId} (h1 : va_RA U a .long) (h2 : va_RA U b .long) : a = b := by
  have e1 : U.vm.findClass ("[" ++ FieldType.long.toString) = some a := h1
  have e2 : U.vm.findClass ("[" ++ FieldType.long.toString) = some b := h2
  exact Option.some.inj (e1.symm.trans e2)
theorem va_RA_boolean {U : State} {a b : ClassId} (h1 : va_RA U a .boolean) (h2 : va_RA U b .boolean) : a = b := by
  have e1 : U.vm.findClass ("[" ++ FieldType.boolean.toString) = some a := h1
  have e2 : U.vm.findClass ("[" ++ FieldType.boolean.toString) = some b := h2
  exact Option.some.inj (e1.symm.trans e2)
section SW
variable {p : Program} {l : Launch} {e : Env} {R : Room} {s : State} {m : MethodId} {args : Array Value} {below : List Frame} {meth : Method} {c : Code} {H : Heap} {locs : List Loc} {cells slots : Nat} {Q : State → Prop} {cc : ByteArray} {pc : Nat} {ls : Array Slot} {rest : List Value}
theorem sw_in (hx : p.tables.exec = Jvm.exec) (hb : c.code = cc) {dflt lo hi : Int} {offs : Array Int} {len : Nat} {x v : Int32} {off : Int} {tgt : Nat} (hd : decode cc pc = .ok (.tableswitch dflt lo hi offs, len)) (hc : x = v) (h1 : ¬ v.toInt < lo) (h2 : ¬ hi < v.toInt) (ho : offs[(v.toInt - lo).toNat]? = some off) (ht : (pc : Int) + off = (tgt : Int))
    (k : W p l e R s m args below meth c H locs cells slots Q (F0 m tgt ls rest)) : W p l e R s m args below meth c H locs cells slots Q (F0 m pc ls (.int x :: rest)) := by
  subst hc
  exact lv_tableIn hx hb hd h1 h2 ho ht k
theorem sw_out (hx : p.tables.exec = Jvm.exec) (hb : c.code = cc) {dflt lo hi : Int} {offs : Array Int} {len : Nat} {x : Int32} {tgt : Nat} (hd : decode cc pc = .ok (.tableswitch dflt lo hi offs, len)) (h : x.toInt < lo ∨ hi < x.toInt) (ht : (pc : Int) + dflt = (tgt : Int))
    (k : W p l e R s m args below meth c H locs cells slots Q (F0 m tgt ls rest)) : W p l e R s m args below meth c H locs cells slots Q (F0 m pc ls (.int x :: rest)) := lv_tableOut hx hb hd h ht k
theorem sw_ne {x v : Int32} {n : Int} (hc : ¬ x = v) (hv : v.toInt = n) : x.toInt ≠ n := fun h => hc (Int32.toInt_inj.mp (h.trans hv.symm))
end SW
