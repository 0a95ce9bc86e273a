/-! CATCHING: the search for a handler where the classes that the clauses name may still have to be resolved; methods with handlers -/
/-- what the search answers, and the tables that it leaves -/
def x_FT (e : Env) (S : State) (f : JFrame) (a : Addr) (h : Handler) (vm' : Vm) : Prop := ∀ (Q : Handler → Pre) (E : CtlPost) (d : Bool) (acts : List Action), wp (findHandler f a) Q E e d acts S ↔ Q h d acts (S.setVm vm')
section XG
variable {Q : Handler → Pre} {E : CtlPost} {e : Env} {d : Bool} {acts : List Action} {s : State} {f : JFrame} {a : Addr}
/-- a clause whose class links: it catches, or the search goes on with warmer tables -/
theorem x_clause {x : ExceptionTableEntry} {t : List ExceptionTableEntry} {c : ClassId} {cell : Cell} (hx : covers x f.pc = true) (h0 : x.catchType ≠ 0) (hl : s.vm.ClassLinks e.platform f.method.cls x.catchType c) (hcell : s.heap[a]? = some cell) (hobj : ∀ k, cell.vm ≠ .statics k) (hk : ∃ k, s.vm.classes[cell.cls]? = some k) (hc : ∃ k, s.vm.classes[c]? = some k) :
    (s.vm.assignable cell.cls c = true → (wp (findHandler.go f a (x :: t)) Q E e d acts s ↔ Q (.found x.handlerPc) d acts (s.setVm (s.vm.noted f.method.cls x.catchType (.cls c))))) ∧
    (s.vm.assignable cell.cls c = false → (wp (findHandler.go f a (x :: t)) Q E e d acts s ↔ wp (findHandler.go f a t) Q E e d acts (s.setVm (s.vm.noted f.method.cls x.catchType (.cls c))))) := by
  simp only [covers] at hx
  obtain ⟨ha, ht⟩ := (resolveClass_links e.toSetting hl).op (op := VmOp.resolveClass f.method.cls x.catchType) rfl
  have hal : s.vm.Alike (s.vm.noted f.method.cls x.catchType (.cls c)) := (Vm.Alike.refl s.vm).noted _ _ _
  obtain ⟨k1, hk1⟩ := hk
  obtain ⟨k2, hk2⟩ := hc
  obtain ⟨k1', hk1', -⟩ := hal.2.2 _ _ hk1
  obtain ⟨k2', hk2', -⟩ := hal.2.2 _ _ hk2
  constructor
  · intro h
    have h' : (s.vm.noted f.method.cls x.catchType (.cls c)).assignable cell.cls c = true := by rw [hal.assignable]; exact h
    simp [findHandler.go, hx, h0, ha, ht, hcell, hobj, hk1', hk2', h', VmOp.dirties, VmOp.acts]
  · intro h
    have h' : (s.vm.noted f.method.cls x.catchType (.cls c)).assignable cell.cls c = false := by rw [hal.assignable]; exact h
    simp [findHandler.go, hx, h0, ha, ht, hcell, hobj, hk1', hk2', h', VmOp.dirties, VmOp.acts]
end XG
/-- a step: the exception is caught here -/
theorem x_caught {tb : Tables} {e : Env} {s target : State} {g : JFrame} {c : Code} {below : List Frame} {a : Addr} (h : At s g.method c below) {pc : Nat} {vm' : Vm} (hfind : x_FT e ((s.setTop g).pushFrame (.throwing a)) g a (.found pc) vm') (hrest : Steps tb e below ((s.setVm vm').setTop { g with pc := pc, stack := [.ref a] }) target) :
    Steps tb e below ((s.setTop g).pushFrame (.throwing a)) target := by
  have hstep : ∀ (u : State) (r : List Frame), x_FT e u g a (.found pc) vm' → (stepThrowing e u a (.java g :: r)).Is ((u.setVm vm').setFrames (.java { g with pc := pc, stack := [.ref a] } :: r)) [] := by
    intro u r hu
    simp only [stepThrowing, searchFrame, vmDo]
    generalize hres : Sem.go _ e false [] u = res
    obtain ⟨as, rfl, ha⟩ := Sem.eq_ok_of hres (a := Handler.found pc) (s' := u.setVm vm') (acts' := []) (by simp [hu _ _ _ _])
    exact ⟨rfl, ha⟩
  obtain ⟨hgo, hw⟩ := h.throwing a
  refine Steps.head hgo hw ?_
  rw [stepThread_throwing (frames_entered h.top _), (hstep ((s.setTop g).pushFrame (.throwing a)) _ hfind).1]
  obtain ⟨g₀, hg⟩ := Option.isSome_iff_exists.mp h.top
  obtain ⟨r, hr⟩ := State.topJava?_eq_some.mp hg
  have hr' : (s.setVm vm').frames = .java g₀ :: r := hr
  rw [State.setTop_of_frames _ hr'] at hrest
  have swap : ∀ (u : State) (F G : List Frame), ((u.setFrames F).setVm vm').setFrames G = (u.setVm vm').setFrames G := fun u F G => by
    have h1 : (u.setFrames F).setVm vm' = (u.setVm vm').setFrames F := rfl
    rw [h1, State.setFrames_setFrames]
  rw [hr, List.tail_cons, State.pushFrame, swap, State.setTop_of_frames _ hr, swap]
  exact hrest
section XK
variable {p : Program} {l : Launch} {e : Env} {R : Room} {s : State} {m : MethodId} {args : Array Value} {below : List Frame} {meth : Method} {c : Code} {H : Heap} {locs : List Loc} {cells slots : Nat} {Q : State → Prop}
variable {pc : Nat} {rm : Room} {own : String} {rest : List Value} {ls : Array Slot} {D : va_G} {A : Nat → Prop} {W0 w0 wr : va_W} {E : Nat}
/-- a clause that this exception passes -/
def x_passes (own : String) (args : Array Value) (s : State) (E pc : Nat) (z : ExceptionTableEntry) : Prop := covers z pc = true ∧ z.catchType ≠ 0 ∧ ∃ nm : String, (Cond.classLink own z.catchType nm).before args s = true ∧ va_Nc (exN E) nm s
set_option maxHeartbeats 1000000 in
theorem x_catch {g : JFrame} (hr : XRun p l e R s m args below meth c H locs cells slots rm.cells rm.slots g (F0 m pc ls rest) D w0 E) (hown : s.vm.findClass own = some m.cls)
    (hP : va_P D vwCl W0 H) (hD : va_D A W0) (hS : va_S A s.heap H locs) (hA : ∀ q, s.heap.size ≤ q → A q) (isC isR : List Nat) (hC : isC.map (fun i => W0[i]?) = w0.map some) (hR : isR.map (fun i => W0[i]?) = wr.map some) (hnC : va_nd isC = true) (hn : va_nd isR = true) (hdis : ∀ i ∈ isR, i ∉ isC)
    (pre : List ExceptionTableEntry) (x : ExceptionTableEntry) (suf : List ExceptionTableEntry) (hsplit : c.exceptionTable.toList = pre ++ x :: suf) (hpass : ∀ z ∈ pre, x_passes own args s E pc z) (hx : covers x pc = true) (h0 : x.catchType ≠ 0) (hlink : (Cond.classLink own x.catchType (exN E)).before args s = true) (hcast : (Cond.castable (exN E) (exN E)).before args s = true)
    (kk : ∀ (q : Addr) (H1 : Heap) (locs1 : List Loc), va_P D vwCl (wr ++ w0) H1 → va_D A (wr ++ w0) → va_S A s.heap H1 locs1 → W p l e R s m args below meth c H1 locs1 (cells + rm.cells) (slots + rm.slots) Q (F0 m x.handlerPc ls [.ref q])) : W p l e R s m args below meth c H locs cells slots Q g := by
  intro T hT X
  obtain ⟨q, ce, T', L, X', hL, k3, k4, k5, k6, k7, k8, k9⟩ := hr T hT X
  obtain ⟨hPn, hDn, hSn⟩ := x_join hP hD hS hA isC isR hC hR hnC hn hdis hL k6 k7 k8
  have hpl : e.platform.magicAccessors = ({} : Platform).magicAccessors := by rw [X'.admits.platform]
  have hobj : ∀ k, ce.vm ≠ .statics k := fun k h => by rw [k4] at h; cases h
  obtain ⟨kE, hkE, -⟩ := Vm.findClass_spec k5
  obtain ⟨c3, c4, hc3, hc4, hasg⟩ := Cond.castable_spec hcast
  cases Option.some.inj (hc3.symm.trans k5)
  cases Option.some.inj (hc4.symm.trans k5)
  obtain ⟨c5, hc5, hcl5⟩ := Cond.classLink_spec hown hlink e.platform hpl
  cases Option.some.inj (hc5.symm.trans k5)
  have search : ∀ (ps : List ExceptionTableEntry), (∀ z ∈ ps, x_passes own args s E pc z) → ∀ S : State, s.WarmedH S.vm → S.heap[q]? = some ce →
      ∃ vm', s.WarmedH vm' ∧ ∀ (Q : Handler → Pre) (E : CtlPost) (d : Bool) (acts : List Action), wp (findHandler.go (F0 m pc ls rest) q (ps ++ x :: suf)) Q E e d acts S ↔ Q (.found x.handlerPc) d acts (S.setVm vm') := by
    intro ps
    induction ps with
    | nil =>
      intro _ S hW hcell
      obtain ⟨kE', hkE', -⟩ := hW.alike.2.2 _ _ hkE
      obtain ⟨dk, _, _, kt, hd, _, _, _, _, hkt, _, hopen⟩ := hcl5.here
      exact ⟨_, hW.noted hd hopen (State.rightAt_cls hcl5), fun Q E d acts => (x_clause (f := F0 m pc ls rest) hx h0 (hW.classLinks hcl5) hcell hobj ⟨kE', hkE'⟩ ⟨kE', hkE'⟩).1 (by rw [hW.alike.assignable]; exact hasg)⟩
    | cons z zs ih =>
      intro hps S hW hcell
      obtain ⟨z1, z2, nm, z3, z4⟩ := hps z List.mem_cons_self
      obtain ⟨c6, hc6, hcl6⟩ := Cond.classLink_spec hown z3 e.platform hpl
      obtain ⟨ca, cb, hca, hcb, hno⟩ := z4
      cases Option.some.inj (hca.symm.trans k5)
      cases Option.some.inj (hcb.symm.trans hc6)
      obtain ⟨kE', hkE', -⟩ := hW.alike.2.2 _ _ hkE
      obtain ⟨dk, _, _, kt, hd, _, _, _, _, hkt, _, hopen⟩ := hcl6.here
      obtain ⟨kt', hkt', -⟩ := hW.alike.2.2 _ _ hkt
      obtain ⟨vm', hW', hq⟩ := ih (fun y hy => hps y (List.mem_cons_of_mem _ hy)) (S.setVm (S.vm.noted m.cls z.catchType (.cls c6))) (hW.noted hd hopen (State.rightAt_cls hcl6)) hcell
      exact ⟨vm', hW', fun Q E d acts => by
        rw [List.cons_append, (x_clause (f := F0 m pc ls rest) z1 z2 (hW.classLinks hcl6) hcell hobj ⟨kE', hkE'⟩ ⟨kt', hkt'⟩).2 (by rw [hW.alike.assignable]; exact hno)]
        exact hq Q E d acts⟩
  obtain ⟨vm', hW', hq⟩ := search pre hpass ((T'.setTop (F0 m pc ls rest)).pushFrame (.throwing q)) X'.warmed k3
  have hft : x_FT e ((T'.setTop (F0 m pc ls rest)).pushFrame (.throwing q)) (F0 m pc ls rest) q (.found x.handlerPc) vm' := fun Q E d acts => by
    rw [W.findHandler_eq (s := (T'.setTop (F0 m pc ls rest)).pushFrame (.throwing q)) (f := F0 m pc ls rest) X'.method' X'.code, hsplit]
    exact hq Q E d acts
  obtain ⟨t, a1, b1⟩ := kk q T'.heap (locs ++ L) hPn hDn hSn (T'.setVm vm') rfl (X'.noted hW')
  exact ⟨t, k9 _ (x_caught (g := F0 m pc ls rest) X'.here hft a1), b1⟩
end XK
set_option maxHeartbeats 1000000 in
/-- a method with handlers -/
theorem ct_ofH {l : Launch} {D : va_G} {tys : List (ClassId × FieldType)} {y : MethodName} {ws : List Cond} {rm : Room} {av : List Value} {w0 : va_W} {P1 : va_W → Prop} {rv : Option Value} {cc : ByteArray} {maxL : Nat} {ret : Option FieldType} {lv : List (Nat × Value)} {hh : List (Nat × Nat × Nat × Nat)}
    (hy : plainName y.cls = true) (hw : ws = Cond.codeWith y cc maxL ret hh :: gt) (hlv : lv_args 0 av = lv) (hsz : Nat.ble (lg_sl av).length maxL = true)
    (body : ∀ (p : Program) (e : Env) (s : State) (m : MethodId) (args : Array Value) (below : List Frame) (meth : Method) (c : Code) (A : Nat → Prop) (Q : State → Prop) (H : Heap) (locs : List Loc), p.tables.exec = Jvm.exec → c.code = cc → c.maxLocals = maxL → s.vm.findClass y.cls = some m.cls → (∀ w ∈ gt, w.before args s = true) → c.exceptionTable.toList = tableOf hh →
      (∀ q, s.heap.size ≤ q → A q) → va_K D vwCl tys s → EV A s → va_P D vwCl w0 H → va_D A w0 → va_S A s.heap H locs →
      (∀ (pc : Nat) (ls : Array Slot) (H : Heap) (locs : List Loc) (w : va_W), retOK cc pc rv → narOK ret rv → P1 w → va_P D vwCl w H → va_D A w → va_S A s.heap H locs → W p l e rm s m args below meth c H locs rm.cells rm.slots Q (F0 m pc ls rv.toList)) →
      ∀ ls : Array Slot, lv_has ls maxL lv → W p l e rm s m args below meth c H locs 0 0 Q (F0 m 0 ls [])) : ct l y ws rm D tys av w0 P1 rv := by
  intro sz
  refine va_MetW (cc := cc) (maxL := maxL) (ret := ret) (hh := hh) hy hw ?_
  intro p e s m args below meth c s₁ B hml hv
  obtain ⟨rfl, hsz1, hP, hK, hD0, hN⟩ := hv
  have hx := B.exec
  have hb := B.bytes
  have hr := B.returns
  have hts0 := atoms_spec (ws := ws) B.pre
  have hts : ∀ w ∈ gt, w.before av.toArray s = true := fun w hw' => hts0 w (by rw [hw]; exact List.mem_cons_of_mem _ hw')
  have hown : s.vm.findClass y.cls = some m.cls := findClass_of_methodNamed B.named
  have hlocks := B.notSynchronized
  have htab : c.exceptionTable.toList = tableOf hh := by
    obtain ⟨m9, meth9, c9, hn9, h1, h2, -, -, h6, -⟩ := Cond.codeWith_spec (hts0 (Cond.codeWith y cc maxL ret hh) (by rw [hw]; exact List.mem_cons_self))
    cases Option.some.inj (hn9.symm.trans B.named)
    cases Option.some.inj (h1.symm.trans B.method)
    cases Option.some.inj (h2.symm.trans (Stand.of_body B).code)
    rw [← h6, table_eq]
  subst hsz1
  have hD := hD0.self (sz := s.heap.size)
  have hA : ∀ q : Nat, s.heap.size ≤ q → va_A w0 s.heap.size q := fun q h => Or.inr h
  have hl := lv_entry av (n := maxL) (Nat.le_of_ble_eq_true hsz)
  rw [lg_entry_eq]
  generalize (lg_sl av ++ List.replicate (maxL - (lg_sl av).length) Slot.unset).toArray = ls at hl ⊢
  rw [hlv] at hl
  refine body p e s m _ below meth c (va_A w0 s.heap.size) _ s.heap [] hx hb hml hown hts htab hA hK hN hP hD va_S.rf ?_ ls hl
  intro pc ls H locs w hro hna hp1 hP1 hD1 hS1
  have fin : ∀ t : State, t.heap = H → s.WarmedH t.vm → ctQ D w0 P1 rv s.heap.size av.toArray s (.returned rv) t := fun t ht hW => ⟨rfl, ⟨w, hp1, by rw [ht]; exact hP1, hD1⟩, hS1.F ht⟩
  rcases hna with ⟨rfl, rfl⟩ | ⟨rfl, v, rfl⟩ | ⟨rfl, v, rfl⟩ | ⟨rfl, v, rfl, hn⟩
  · exact W.vret hx hb hr fin hS1.2.2 hro
  · exact W.iret hx hb hr fin hS1.2.2 hro
  · exact W.lret hx hb hr fin hS1.2.2 hro
  · exact W.zret hx hb hr hn fin hS1.2.2 hro
section XH
variable {p : Program} {l : Launch} {e : Env} {R : Room} {s : State} {m : MethodId} {args : Array Value} {below : List Frame} {meth : Method} {c : Code} {H : Heap} {locs : List Loc} {cells slots : Nat} {Q : State → Prop}
variable {y : MethodName} {bytes cc : ByteArray} {maxL nL n index pc : Nat} {ret : Option FieldType} {hh : List (Nat × Nat × Nat × Nat)} {ws : List Cond} {rm : Room} {own : String} {As rest st0 : List Value} {ls : Array Slot}
variable {D : va_G} {tys : List (ClassId × FieldType)} {A : Nat → Prop} {W0 w0 wr : va_W} {P1 : va_W → Prop} {rv : Option Value}
set_option maxHeartbeats 1000000 in
/-- a static call of a method with handlers -/
theorem cc_SH (F : CallFix p m c cc nL s args gt own) (hM : ct l y ws rm D tys As w0 P1 rv) (hw : ws = Cond.codeWith y bytes maxL ret hh :: gt) (h1 : Cond.methodLink own index y ∈ gt) (h2 : Cond.static y ∈ gt) (h3 : Cond.initialized own ∈ gt) (h4 : Cond.codeWith y bytes maxL ret hh ∈ gt)
    (hdd : y.cls = own ∧ y.cls ≠ "java/lang/invoke/MethodHandle" ∧ y.cls ≠ "java/lang/invoke/VarHandle" ∧ (parseMethodDescriptor y.desc).map (fun d => d.parameters.length) = some n) (hRm : rm.frames + 1 ≤ R.frames ∧ 8 + (maxL + 11) + rm.locals ≤ R.locals) (hK : va_K D vwCl tys s) (hN : EV A s)
    (hP : va_P D vwCl W0 H) (hD : va_D A W0) (hS : va_S A s.heap H locs) (hA : ∀ q, s.heap.size ≤ q → A q) (isC isR : List Nat) (hC : isC.map (fun i => W0[i]?) = w0.map some) (hR : isR.map (fun i => W0[i]?) = wr.map some) (hnC : va_nd isC = true) (hn : va_nd isR = true) (hdis : ∀ i ∈ isR, i ∉ isC)
    (hlen : As.length = n) (hsz : ls.size = nL) (hst : st0 = As.reverse ++ rest) (hcat : (rest.map fun v => v.category).sum ≤ 8) (hd : decode cc pc = .ok (.invokestatic index, 3)) (hf : cells + rm.cells ≤ R.cells ∧ slots + rm.slots ≤ R.slots)
    (kk : ∀ (w1 : va_W) (H1 : Heap) (locs1 : List Loc), P1 w1 → va_P D vwCl (wr ++ w1) H1 → va_D A (wr ++ w1) → va_S A s.heap H1 locs1 → W p l e R s m args below meth c H1 locs1 (cells + rm.cells) (slots + rm.slots) Q (F0 m (pc + 3) ls (rv.toList ++ rest))) : W p l e R s m args below meth c H locs cells slots Q (F0 m pc ls st0) := by
  obtain ⟨hcls, hmh, hvh, hpar⟩ := hdd
  have hts := F.2.2.2.2
  have hini : (Cond.initialized y.cls).before args s = true := by rw [hcls]; exact hts _ h3
  have hws : ∀ w ∈ ws, ∀ (a' : Array Value) (U : State), s.WarmedH U.vm → w.before a' U = true := pay_in hts (gI h4 hw)
  have hBack : Back l R p e below s args y 3 8 (PreOf R rm.cells rm.slots (ctP D tys w0 H.size As)) (PostOf (ctQ D w0 P1 rv H.size) rm.cells rm.slots (va_A w0 H.size)) :=
    va_backW (hh := hh) (bytes := bytes) (maxL := maxL) (ret := ret) (hM H.size) ct_blind rfl rfl hRm.1 hRm.2 hws (by rw [hw]; exact List.mem_cons_self) (fun a' U hW => word_at hW (Or.inl (by first | rfl | simp [Cond.onTables, Cond.keeps, Cond.steady])) hini)
  refine cc_run (a := As.toArray) ?_ hP hD hS hA isC isR hC hR hn hdis kk
  obtain ⟨hx, hb, hml, ho, -⟩ := F
  intro T hT X
  obtain ⟨mk, methM, cM, hnamed, hmethM, -, -, -, -, -, -, hsigM⟩ := Cond.codeWith_spec (hts _ h4)
  obtain ⟨kP, hkP, -⟩ := className_of_methodNamed hnamed
  have hln : As.length = methM.sig.parameters.length := by
    rw [hsigM] at hpar
    rw [hlen]
    exact (Option.some.inj hpar).symm
  obtain ⟨vm₁, X₁, hstep₁⟩ := X.invokestatic hx ho (hts _ h1) hnamed hmethM (Cond.static_spec hnamed hmethM (hts _ h2)) hkP (Cond.initialized_spec (findClass_of_methodNamed hnamed) hkP hini) ⟨hmh, hvh⟩ (g := F0 m pc ls st0) rfl (argsL := As) (rest := rest) hln hst (by rw [hb]; exact hd)
  obtain ⟨v, ⟨U', l2, c2, s2⟩, X', ⟨g', mk', t, L, e1, e2, hq, q1, hL, q2, q3⟩, hsteps⟩ := hBack m meth c ⟨T.setVm vm₁, locs, cells, slots⟩ (F0 m pc ls rest) (.invokestatic index) mk As.toArray X₁ rfl (hsz.trans hml.symm) (by rw [hb]; exact hd) (lv_room hcat) (X₁.named hnamed)
    ⟨hf.1, hf.2, cc_at (av := As) hK hN hP hD hS hA isC hC hnC (T.setVm vm₁) hT X₁.warmed⟩
  dsimp only [Pt.U, Pt.locs, Pt.cells, Pt.slots] at X' e1 e2 q1 q2 q3 hsteps
  subst q1; subst q2; subst q3
  exact ⟨v, (T.setVm vm₁).calling g' mk' As.toArray, t, U', L, hT, X', hL, e1, e2, hq, fun target h => hstep₁ _ fun acts => by rw [doInvoke_state]; exact hsteps.trans h⟩
end XH
theorem x_cast {A : Nat → Prop} {s : State} {args : Array Value} {E : Nat} (hE : E < 3) (hN : EV A s) : (Cond.castable (exN E) (exN E)).before args s = true := by
  have hw : Cond.castable (exN E) (exN E) ∈ OA E := by simp [OA, Bundle.ownAtoms]
  exact va_tabs rfl rfl (hN.2.1 E hE _ hw rfl)
