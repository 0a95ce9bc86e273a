/-! THROWS: a method that throws E out of an unchanged world; the throw itself; going on through a method without handlers; catching -/
def exK : Nat → Nat
  | 0 => 175
  | 1 => 89
  | _ => 132
/-- what holds where a method has thrown -/
def cxQ (D : va_G) (w0 : va_W) (E : Nat) (sz mc ms : Nat) : Array Value → State → Outcome → State → Prop := fun _ st o t =>
  ∃ (q : Addr) (ce : Cell) (L : List Loc), o = .threw q ∧ t.heap[q]? = some ce ∧ ce.vm = .none ∧ st.vm.findClass (exN E) = some ce.cls ∧ st.WarmedH t.vm ∧ st.sameButNew ({ t with vm := st.vm } : State) L mc ms ∧ (∀ z ∈ L, va_A w0 sz z.base) ∧ va_P D vwCl w0 t.heap ∧ va_F (va_A w0 sz) st t
def cx (l : Launch) (y : MethodName) (ws : List Cond) (rm : Room) (D : va_G) (tys : List (ClassId × FieldType)) (av : List Value) (w0 : va_W) (E : Nat) : Prop :=
  ∀ sz, MetFree l y (headSpec ws rm) (ctP D tys w0 sz av) (fun _ _ _ _ _ => True) (cxQ D w0 E sz rm.cells rm.slots)
/-- what a throwing body owes at its end -/
def XQ (below : List Frame) (D : va_G) (w0 : va_W) (E : Nat) (A : Nat → Prop) (s : State) (mc ms : Nat) : State → Prop := fun t =>
  ∃ (q : Addr) (ce : Cell) (L : List Loc), t.status = .running ∧ Ended t below (.threw q) ∧ t.heap[q]? = some ce ∧ ce.vm = .none ∧ s.vm.findClass (exN E) = some ce.cls ∧ s.WarmedH t.vm ∧ s.sameButNew ({ t with vm := s.vm } : State) L mc ms ∧ (∀ z ∈ L, A z.base) ∧ va_P D vwCl w0 t.heap ∧ va_F A s t
set_option maxHeartbeats 1000000 in
theorem cx_of {l : Launch} {D : va_G} {tys : List (ClassId × FieldType)} {y : MethodName} {ws : List Cond} {rm : Room} {av : List Value} {w0 : va_W} {E : Nat} {cc : ByteArray} {maxL : Nat} {ret : Option FieldType} {lv : List (Nat × Value)}
    (hy : plainName y.cls = true) (hw : ws = Cond.code y cc maxL ret :: gt) (hlv : lv_args 0 av = lv) (hsz : Nat.ble (lg_sl av).length maxL = true)
    (body : ∀ (p : Program) (e : Env) (s : State) (m : MethodId) (args : Array Value) (below : List Frame) (meth : Method) (c : Code) (A : Nat → Prop) (Q : State → Prop) (H : Heap) (locs : List Loc), p.tables.exec = Jvm.exec → c.code = cc → c.maxLocals = maxL → s.vm.findClass y.cls = some m.cls → (∀ w ∈ gt, w.before args s = true) → meth.name = y.name →
      (∀ q, s.heap.size ≤ q → A q) → va_K D vwCl tys s → EV A s → va_P D vwCl w0 H → va_D A w0 → va_S A s.heap H locs →
      (meth.locks = false ∧ (∀ x ∈ c.exceptionTable.toList, False) ∧ ∀ t, XQ below D w0 E A s rm.cells rm.slots t → Q t) →
      ∀ ls : Array Slot, lv_has ls maxL lv → W p l e rm s m args below meth c H locs 0 0 Q (F0 m 0 ls [])) : cx l y ws rm D tys av w0 E := by
  intro sz
  refine MetFree.of_bodyS (code := cc) (maxLocals := maxL) (ret := ret) hy ?_ ?_
  · intro args s m h hn
    obtain ⟨meth, c, h1, h2, h3, h4, h5, h6, -, -⟩ := Cond.code_spec hn (atoms_spec (ws := ws) h _ (by rw [hw]; exact List.mem_cons_self))
    exact ⟨meth, c, h1, h2, h3, h4, h5, h6⟩
  · intro p e s m args below meth c s₁ B hml hv _
    have hh0 : s₁.heap = s.heap := by rw [B.state]; rfl
    have htab : ∀ x ∈ c.exceptionTable.toList, False := by
      obtain ⟨meth9, c9, h1, h2, -, -, -, -, h7, -⟩ := Cond.code_spec B.named (atoms_spec (ws := ws) B.pre _ (by rw [hw]; exact List.mem_cons_self))
      cases Option.some.inj (h1.symm.trans B.method)
      cases Option.some.inj (h2.symm.trans (Stand.of_body B).code)
      intro x hx
      rw [Array.isEmpty_iff.mp h7] at hx
      cases hx
    obtain ⟨rfl, hsz1, hP, hK, hD0, hN⟩ := hv
    have hts0 := atoms_spec (ws := ws) B.pre
    have hts : ∀ w ∈ gt, w.before av.toArray s = true := fun w hw' => hts0 w (by rw [hw]; exact List.mem_cons_of_mem _ hw')
    subst hsz1
    have hD := hD0.self (sz := s.heap.size)
    have hl := lv_entry av (n := maxL) (Nat.le_of_ble_eq_true hsz)
    rw [hlv] at hl
    have K := body p e s m av.toArray below meth c (va_A w0 s.heap.size) (XQ below D w0 E (va_A w0 s.heap.size) s rm.cells rm.slots) s.heap [] B.exec B.bytes hml (findClass_of_methodNamed B.named) hts (name_of_methodNamed B.named B.method).1 (fun q h => Or.inr h) hK hN hP hD va_S.rf ⟨B.notSynchronized, htab, fun t h => h⟩ _ hl
    rw [← lg_entry_eq] at K
    obtain ⟨t, a1, q, ce, L, b1, b2, b3, b4, b5, b6, b7, b8, b9, b10⟩ := K s₁ hh0 (Stand.of_body B)
    exact ⟨t, .threw q, a1, b1, b2, q, ce, L, rfl, b3, b4, b5, b6, b7, b8, b9, b10⟩
/-- the four words of a throw that the tables alone don't decide -/
theorem x_four {E : Nat} (hE : E < 3) {w : Cond} (hw : w ∈ OA E) (ho : ¬ w.onTables = true) {aU aN : Nat} {s : State} {args : Array Value} (h1 : thS "UNASSIGNED_STACK" Bundle.steD aU s s.heap) (h2 : thS "SUPPRESSED_SENTINEL" Bundle.listD aN s s.heap) : w.before args s = true := by
  have key : w = .isRef (.static Bundle.tN "UNASSIGNED_STACK" Bundle.steD) ∨ w = .isRef (.static Bundle.tN "SUPPRESSED_SENTINEL" Bundle.listD) ∨ w = .laysStatic Bundle.tN "UNASSIGNED_STACK" Bundle.steD ∨ w = .laysStatic Bundle.tN "SUPPRESSED_SENTINEL" Bundle.listD := by
    have all : ∀ E, E < 3 → ∀ w ∈ OA E, w.onTables = true ∨ (w = .isRef (.static Bundle.tN "UNASSIGNED_STACK" Bundle.steD) ∨ w = .isRef (.static Bundle.tN "SUPPRESSED_SENTINEL" Bundle.listD) ∨ w = .laysStatic Bundle.tN "UNASSIGNED_STACK" Bundle.steD ∨ w = .laysStatic Bundle.tN "SUPPRESSED_SENTINEL" Bundle.listD) := by decide +kernel
    exact (all E hE w hw).resolve_left ho
  rcases key with rfl | rfl | rfl | rfl
  · exact thS_ref h1
  · exact thS_ref h2
  · exact thS_lays h1
  · exact thS_lays h2
theorem x_str {own : String} {k a : Nat} {s : State} {args : Array Value} (h : (Term.string own k).eval #[] s none [] s = some (.ref a)) : (Term.string own k).eval args s none [] s = some (.ref a) := h
section XN
variable {p : Program} {l : Launch} {e : Env} {R : Room} {s : State} {m : MethodId} {args : Array Value} {below : List Frame} {meth : Method} {c : Code} {H : Heap} {locs : List Loc} {cells slots : Nat} {Q : State → Prop}
/-- nothing has changed but the frames -/
theorem x_same0 {U : State} {F : List Frame} (htop : U.topJava?.isSome) : (U.setFrames F).sameButNew U [] 0 0 := by
  obtain ⟨g₀, hg⟩ := Option.isSome_iff_exists.mp htop
  obtain ⟨r, hr⟩ := State.topJava?_eq_some.mp hg
  obtain ⟨t, ht, -⟩ := State.frames_cons hr
  have back : (U.setFrames F).setFrames U.frames = U := by rw [State.setFrames_setFrames, State.setFrames_self ht]
  have none_new : U.heap.toList.drop U.heap.size = [] := List.drop_eq_nil_of_le (Nat.le_of_eq Array.length_toList)
  have same_heap : (U.setFrames F).heap = U.heap := rfl
  refine ⟨?_, Nat.le_refl _, Nat.le_refl _, ?_, ?_, fun a c h => ⟨c, h, rfl, rfl, fun _ _ => rfl⟩⟩
  · rw [back]
  · rw [same_heap, none_new]; rfl
  · rw [same_heap, none_new]; exact Nat.le_refl _
/-- a walk may be taken as begun here: in this heap, with the room that is left -/
theorem x_here {T : State} (X : Stand p l e R s m args below meth c T locs cells slots) {R' : Room} (hf : R'.frames ≤ R.frames) (hl : R'.locals ≤ R.locals) (hc : cells + R'.cells ≤ R.cells) (hs : slots + R'.slots ≤ R.slots) :
    Stand p l e R' ((T.setVm s.vm).setFrames (.invoking m args :: below)) m args below meth c T [] 0 0 := by
  have htop : (T.setVm s.vm).topJava?.isSome := X.here.top
  have hF : ((T.setVm s.vm).setFrames (.invoking m args :: below)).frames = .invoking m args :: below := State.frames_setFrames _ (State.cur_lt_of_top htop)
  have hroom : ((T.setVm s.vm).setFrames (.invoking m args :: below)).hasRoom e.platform R' = true := by
    have hin : ((T.setVm s.vm).setFrames (.invoking m args :: below)).localsInUse = s.localsInUse := by
      rw [State.localsInUse_invoking hF (meth := meth) (c := c) X.method X.code, State.localsInUse_invoking X.frames X.method X.code]
    have old := X.room
    have lim : e.platform.stackLimits (T.setVm s.vm).me = e.platform.stackLimits s.me := X.limits
    have byt : (T.setVm s.vm).me.stackBytes = s.me.stackBytes := X.bytes
    have hsz : T.heap.size + R'.cells ≤ s.heap.size + R.cells := by have := X.heapSize; omega
    have hus : T.slotsUsed + R'.slots ≤ s.slotsUsed + R.slots := by have := X.used; omega
    simp only [State.hasRoom, Bool.and_eq_true, decide_eq_true_eq] at old ⊢
    simp only [hF, hin, List.length_cons, State.stackLimits_setFrames, State.stackBytes_setFrames, lim, byt]
    obtain ⟨⟨⟨⟨o1, o2, o3, o4, o5, o6⟩, o7⟩, o8⟩, -⟩ := old
    rw [X.frames, List.length_cons] at o2 o3
    exact ⟨⟨⟨⟨by omega, by omega, by omega, by omega, by omega, o6⟩, Nat.le_trans hsz o7⟩, Nat.le_trans hus o8⟩, X.book⟩
  exact { admits := X.admits, cas := X.cas, clock := X.clock, frames := hF, room := hroom, hears := X.hears, method := X.method, code := X.code, here := X.here, tail := X.tail, warmed := X.warmed,
          limits := by rw [State.stackLimits_setFrames]; rfl, bytes := by rw [State.stackBytes_setFrames]; rfl, same := x_same0 htop }
/-- old cells that were not written -/
theorem x_old {U : State} {k n : Nat} (h : s.sameButNew ({ U with vm := s.vm } : State) [] k n) : s.heap.size ≤ U.heap.size ∧ ∀ q : Nat, q < s.heap.size → U.heap[q]? = s.heap[q]? := by
  refine ⟨h.2.1, fun q hq => ?_⟩
  have h1 : s.heap[q]? = some s.heap[q] := Array.getElem?_eq_getElem hq
  rw [h1]
  exact State.sameButNew.old_cell h h1
set_option maxHeartbeats 1000000 in
/-- 'throw new E("text")' at the end of its road: the method has thrown -/
theorem x_new {D : va_G} {w0 : va_W} {A : Nat → Prop} {E : Nat} {cc : ByteArray} {pc is mc ms : Nat} {tx : String} {ls : Array Slot} (hE : E < 3) (hx : p.tables.exec = Jvm.exec) (hb : c.code = cc) (hst : l.stackTraces = false) (hown : s.vm.findClass "PictureChange" = some m.cls) (hts : ∀ w ∈ gt, w.before args s = true)
    (hk : Cond.classLink "PictureChange" (exK E) (exN E) ∈ gt) (hini : Cond.initialized (exN E) ∈ gt) (hfit : Bundle.fit (exN E) = true) (hstr : (is, tx) ∈ strs) (hN : EV A s) (hS : va_S A s.heap H locs) (hP : va_P D vwCl w0 H) (hsize : ls.size = c.maxLocals)
    (d0 : decode cc pc = .ok (.new (exK E), 3)) (d3 : decode cc (pc + 3) = .ok (.dup, 1)) (d4 : decode cc (pc + 4) = .ok (.ldc is, 2)) (d6 : decode cc (pc + 6) = .ok (.invokespecial (exI E), 3)) (d9 : decode cc (pc + 9) = .ok (.athrow, 1))
    (hf : 6 ≤ R.frames) (hlo : 100 ≤ R.locals) (hc : cells + 1 ≤ R.cells) (hs : slots + 6 ≤ R.slots) (hc2 : cells + 1 ≤ mc) (hs2 : slots + 6 ≤ ms)
    (hQ : meth.locks = false ∧ (∀ x ∈ c.exceptionTable.toList, False) ∧ ∀ t, XQ below D w0 E A s mc ms t → Q t) : W p l e R s m args below meth c H locs cells slots Q (F0 m pc ls []) := by
  intro T hT X
  obtain ⟨hlocks, hnone, hQ⟩ := hQ
  have htr : e.platform.stackTraces = false := (show e.platform.stackTraces = l.stackTraces by rw [X.admits.platform]).trans hst
  have Y := x_here X (R' := { frames := R.frames, locals := R.locals, cells := 1, slots := 6 }) (Nat.le_refl _) (Nat.le_refl _) hc hs
  obtain ⟨s', es⟩ : ∃ z, z = (T.setVm s.vm).setFrames (.invoking m args :: below) := ⟨_, rfl⟩
  rw [← es] at Y
  have hvm : s'.vm = s.vm := by rw [es]; rfl
  have hhp : s'.heap = H := by rw [es]; exact hT
  have hW0 : s.WarmedH s'.vm := by rw [hvm]; exact State.WarmedH.refl s
  obtain ⟨-, hxw, hsr, aU, aN, t1, t2, -, -⟩ : EV A s' := EV_to hW0 hN (fun q h1 h2 => by rw [hhp]; exact hS.2.1 q h1 h2) (fun _ z => z)
  have hwords : ∀ w ∈ Bundle.ownAtoms "PictureChange" (exI E) (exN E) xNms, w.before args s' = true := fun w hw => by
    by_cases ho : w.onTables = true
    · exact va_tabs ho rfl (hxw E hE w hw ho)
    · exact x_four hE hw ho t1 t2
  have hgood : ∀ w ∈ gt, w.before args s' = true := fun w hw => word_at hW0 (gt_good hw) (hts w hw)
  have hown' : s'.vm.findClass "PictureChange" = some m.cls := by rw [hvm]; exact hown
  obtain ⟨sa, hsa⟩ := hsr.1 _ hstr
  have hins : (Cond.instantiable (exN E) 6).before args s' = true := hwords _ (by simp [Bundle.ownAtoms])
  obtain ⟨vm₁, cX, kX, hfX, hkX, -, -, X₁, st1⟩ := Y.newCold hx (own := "PictureChange") (C := exN E) (index := exK E) (n := 6) hown' (hgood _ hk) hins (hgood _ hini) (g := F0 m pc ls []) rfl (by rw [hb]; exact d0) (Nat.le_refl _) (Nat.le_refl _)
  generalize hT1 : (T.setVm vm₁).pushCell { cls := cX, slots := kX.instanceTypes.map defaultValue, vm := .none } = T1 at X₁ st1
  have hcell : T1.heap[T.heap.size]? = some (freshCell cX kX) := by rw [← hT1]; exact State.heap_pushCell_size _ _
  have d3' : decode c.code (pc + 3) = .ok (.dup, 1) := by rw [hb]; exact d3
  have d4' : decode c.code (pc + 4) = .ok (.ldc is, 2) := by rw [hb]; exact d4
  obtain ⟨U, hsteps, hrun, hend, hW, hsame, ce, hce, hO⟩ := X₁.ctorThrowS hx htr (own := "PictureChange") (cls := exN E) (names := xNms) (ic := exI E) hown' hfit (by decide +kernel) hwords (fun x hx => nomatch hx) hfX hkX hcell (by rw [hhp, hT]; exact Nat.le_refl _) (msg := .ref sa) rfl
    (g := { method := m, pc := pc + 6, locals := ls, stack := [.ref sa, .ref T.heap.size, .ref T.heap.size], locked := none }) rfl hsize rfl rfl (rest := []) rfl
    (by rw [hb]; exact d6) (by rw [hb]; exact d9) (fun x hx => (hnone x hx).elim) (by show 2 + 3 < R.frames; omega) (by show 2 * 0 + ([Value.ref T.heap.size].map fun v => v.category).sum + (13 * (2 + 1) + 42) ≤ R.locals; exact Nat.le_trans (Nat.le_of_ble_eq_true rfl) hlo) hlocks
  obtain ⟨f1, f2⟩ := x_old hsame
  rw [hhp] at f1 f2
  have hWs : s.WarmedH U.vm := State.WarmedH.trans hW0 hW
  have hcl : s.vm.findClass (exN E) = some ce.cls := by rw [← hvm]; exact hO.cls
  have hall : s.sameButNew ({ U with vm := s.vm } : State) locs mc ms := by
    subst es
    obtain ⟨e1, e2⟩ := hsame
    rw [State.setFrames_setFrames] at e1
    have h2 : (T.setVm s.vm).sameButNew ({ U with vm := s.vm } : State) [] (0 + 1) (0 + 6) := ⟨e1, e2⟩
    have h3 := X.same.trans h2
    rw [List.append_nil] at h3
    exact h3.mono hc2 hs2
  have hPU : va_P D vwCl w0 U.heap := hP.kept (fun k q h => f2 q.1 (hP k q h).lt)
  refine ⟨U, ?_, hQ U ⟨T.heap.size, ce, locs, hrun, hend, hce, hO.vm, hcl, hWs, hall, hS.2.2, hPU, Nat.le_trans hS.1 f1, fun q h1 h2 => by rw [f2 q (Nat.lt_of_lt_of_le h1 hS.1)]; exact hS.2.1 q h1 h2⟩⟩
  refine st1 _ ?_
  show Steps p.tables e below (T1.setTop { method := m, pc := pc + 3, locals := ls, stack := [.ref T.heap.size], locked := none }) _
  jvm_step X₁.here [X₁.here.top, hx, d3', Value.category]
  exact X₁.ldcString hx (own := "PictureChange") (text := tx) (index := is) (a := sa) hown' hsa.1 (x_str hsa.2)
    (g := { method := m, pc := pc + 4, locals := ls, stack := [.ref T.heap.size, .ref T.heap.size], locked := none }) rfl d4' _ hsteps
/-- behind a call that has thrown q -/
def XRun (p : Program) (l : Launch) (e : Env) (R : Room) (s : State) (m : MethodId) (args : Array Value) (below : List Frame) (meth : Method) (c : Code) (H : Heap) (locs : List Loc) (cells slots mc ms : Nat) (g g' : JFrame) (D : va_G) (w0 : va_W) (E : Nat) : Prop :=
  ∀ T : State, T.heap = H → Stand p l e R s m args below meth c T locs cells slots → ∃ (q : Addr) (ce : Cell) (T' : State) (L : List Loc), Stand p l e R s m args below meth c T' (locs ++ L) (cells + mc) (slots + ms) ∧ (∀ z ∈ L, va_A w0 H.size z.base) ∧ T'.heap[q]? = some ce ∧ ce.vm = .none ∧ s.vm.findClass (exN E) = some ce.cls ∧
    va_P D vwCl w0 T'.heap ∧ H.size ≤ T'.heap.size ∧ (∀ z : Nat, z < H.size → ¬ va_A w0 H.size z → T'.heap[z]? = H[z]?) ∧ ∀ target, Steps p.tables e below ((T'.setTop g').pushFrame (.throwing q)) target → Steps p.tables e below (T.setTop g) target
set_option maxHeartbeats 1000000 in
theorem x_core {D : va_G} {tys : List (ClassId × FieldType)} {w0 : va_W} {E : Nat} {y : MethodName} {ws : List Cond} {rm : Room} {av : List Value} {bytes : ByteArray} {maxL : Nat} {ret : Option FieldType} {T : State} (hM : cx l y ws rm D tys av w0 E) (X : Stand p l e R s m args below meth c T locs cells slots) {g : JFrame} {ig : Instr} {mk : MethodId} (hg : g.method = m) (hsize : g.locals.size = c.maxLocals) (hdg : decode c.code g.pc = .ok (ig, 3))
    (hW : 2 * g.monitorRoom + (g.stack.map fun v => v.category).sum ≤ 8) (hn : T.methodNamed? y = some mk) (hfr : rm.frames + 1 ≤ R.frames) (hlo : 8 + (maxL + 11) + rm.locals ≤ R.locals) (hws : ∀ w ∈ ws, ∀ (a' : Array Value) (U : State), s.WarmedH U.vm → w.before a' U = true) (hcw : Cond.code y bytes maxL ret ∈ ws) (hini : (Cond.initialized y.cls).before args s = true)
    (hc : cells + rm.cells ≤ R.cells) (hs : slots + rm.slots ≤ R.slots) (hP : ctP D tys w0 T.heap.size av av.toArray T) :
    ∃ (q : Addr) (ce : Cell) (T' : State) (L : List Loc), Stand p l e R s m args below meth c T' (locs ++ L) (cells + rm.cells) (slots + rm.slots) ∧ (∀ z ∈ L, va_A w0 T.heap.size z.base) ∧ T'.heap[q]? = some ce ∧ ce.vm = .none ∧ T.vm.findClass (exN E) = some ce.cls ∧
      va_P D vwCl w0 T'.heap ∧ T.heap.size ≤ T'.heap.size ∧ (∀ z : Nat, z < T.heap.size → ¬ va_A w0 T.heap.size z → T'.heap[z]? = T.heap[z]?) ∧ Steps p.tables e below (doInvoke e (T.setTop g) [] mk av.toArray).1 ((T'.setTop g).pushFrame (.throwing q)) := by
  have hat : At T g.method c below := by rw [hg]; exact X.here
  have hcode : (Cond.code y bytes maxL ret).before av.toArray T = true := hws _ hcw _ _ X.warmed
  obtain ⟨methY, cY, hmY, hcY, -, hlY, -, -, -, -⟩ := Cond.code_spec hn hcode
  obtain ⟨kY, hkY, -⟩ := className_of_methodNamed hn
  have hiT : (Cond.initialized y.cls).before av.toArray T = true := word_at X.warmed (Or.inl (by first | rfl | simp [Cond.onTables, Cond.keeps, Cond.steady])) hini
  have happ : (headSpec ws rm).appliesLoose y e.platform (T.calling g mk av.toArray) = true :=
    Spec.appliesLoose_calling (g := g) hat hdg hn hkY (Cond.initialized_spec (findClass_of_methodNamed hn) hkY hiT)
      (X.room_calling (g := g) (R' := (headSpec ws rm).room) hsize hmY hcY hfr (by rw [hlY]; show 2 * g.monitorRoom + (g.stack.map fun v => v.category).sum + (maxL + 11) + rm.locals ≤ R.locals; omega) hc hs) (atoms_intro fun w hw => hws w hw _ _ X.warmed)
  obtain ⟨mid, hmid⟩ := hat.above
  have hfrm : (T.setTop g).frames = (.java g :: mid) ++ below := by rw [State.frames_setTop' g hat.top, hmid]; rfl
  obtain ⟨o, s₂, hsteps, -, hend, hq⟩ := Steps.callFree (hM T.heap.size) p X.admits X.cas X.clock (acts := []) hfrm happ (ct_blind _ _ g mk hP) trivial
  have hq' : cxQ D w0 E T.heap.size rm.cells rm.slots av.toArray (T.calling g mk av.toArray) o s₂ := hq
  obtain ⟨q, ce, L, rfl, h1, h2, h3, hW₂, hsm, hL, hPw, hF⟩ := hq'
  rw [State.frames_setTop' g hat.top] at hend
  have hf₂ : s₂.frames = .throwing q :: .java g :: T.frames.tail := hend
  have hW' : T.WarmedH s₂.vm := hW₂
  obtain ⟨g₀, hg0⟩ := Option.isSome_iff_exists.mp hat.top
  obtain ⟨r, hr⟩ := State.topJava?_eq_some.mp hg0
  obtain ⟨U, hU⟩ : ∃ U : State, U = ({ T with heap := s₂.heap, slotsUsed := s₂.slotsUsed } : State).setVm s₂.vm := ⟨_, rfl⟩
  have hrU : U.frames = .java g₀ :: r := by rw [hU]; exact hr
  have hs₂ : s₂ = (U.setTop g).pushFrame (.throwing q) := by
    have e3 : s₂ = ({ (T.calling g mk av.toArray).setFrames s₂.frames with heap := s₂.heap, slotsUsed := s₂.slotsUsed } : State).setVm s₂.vm := by
      have e4 : s₂ = ({ s₂ with vm := (T.calling g mk av.toArray).vm } : State).setVm s₂.vm := rfl
      rw [hsm.1] at e4
      exact e4
    refine e3.trans ?_
    rw [hf₂, State.calling_eq hat.top, State.setFrames_setFrames, State.pushFrame, State.frames_setTop _ hrU, State.setTop_of_frames _ hrU, State.setFrames_setFrames, hr, hU]
    rfl
  have hsame : T.sameButNew ({ T with heap := s₂.heap, slotsUsed := s₂.slotsUsed } : State) L rm.cells rm.slots := by
    obtain ⟨t, ht, -⟩ := State.frames_cons hr
    refine ⟨?_, hsm.2⟩
    show ({ T with heap := s₂.heap, slotsUsed := s₂.slotsUsed } : State) = { T.setFrames T.frames with heap := s₂.heap, slotsUsed := s₂.slotsUsed }
    rw [State.setFrames_self ht]
  have hheap : U.heap = s₂.heap := by rw [hU]; rfl
  subst hg
  refine ⟨q, ce, U, L, ?_, hL, by rw [hheap]; exact h1, h2, h3, by rw [hheap]; exact hPw, by rw [hheap]; exact hF.1, fun z z1 z2 => by rw [hheap]; exact hF.2 z z1 z2, ?_⟩
  · rw [hU]
    exact { admits := X.admits, cas := X.cas, clock := X.clock, frames := X.frames, room := X.room, hears := X.hears, method := X.method, code := X.code, here := (X.here.setHeapUsed s₂.heap s₂.slotsUsed).setVm hW'.alike, tail := X.tail, warmed := State.WarmedH.trans X.warmed hW', limits := X.limits, bytes := X.bytes, same := X.same.trans (hsame.setVm s.vm) }
  · rw [← hs₂]
    exact hsteps
end XN
section XC
variable {p : Program} {l : Launch} {e : Env} {R : Room} {s : State} {m : MethodId} {args : Array Value} {below : List Frame} {meth : Method} {c : Code} {H : Heap} {locs : List Loc} {cells slots : Nat} {Q : State → Prop}
variable {y : MethodName} {bytes cc : ByteArray} {maxL nL n index pc : Nat} {ret : Option FieldType} {ws : List Cond} {rm : Room} {own C : String} {b : Addr} {As rest st0 : List Value} {ls : Array Slot}
variable {D : va_G} {tys : List (ClassId × FieldType)} {A : Nat → Prop} {W0 w0 wr : va_W} {E : Nat}
set_option maxHeartbeats 1000000 in
theorem x_V (F : CallFix p m c cc nL s args gt own) (hM : cx l y ws rm D tys (.ref b :: As) w0 E) (cw : CallW R s args own C index y bytes maxL ret ws rm rm.cells rm.slots n) (hK : va_K D vwCl tys s) (hN : EV A s)
    (hP : va_P D vwCl W0 H) (hD : va_D A W0) (hS : va_S A s.heap H locs) (hA : ∀ q, s.heap.size ≤ q → A q) (isC : List Nat) (hC : isC.map (fun i => W0[i]?) = w0.map some) (hnC : va_nd isC = true)
    (ci : Nat) {Tf : u_T} {N : Nat} {fs : List Value} (hc : vwCl[ci]? = some (C, Tf, N)) (he : w0[0]? = some (b, .inr (ci, fs))) (hlen : As.length = n) (hsz : ls.size = nL) (hst : st0 = As.reverse ++ .ref b :: rest) (hcat : (rest.map fun v => v.category).sum ≤ 8) (hd : decode cc pc = .ok (.invokevirtual index, 3)) (hf : cells + rm.cells ≤ R.cells ∧ slots + rm.slots ≤ R.slots) :
    XRun p l e R s m args below meth c H locs cells slots rm.cells rm.slots (F0 m pc ls st0) (F0 m pc ls rest) D w0 E := by
  have hC' : isC.filterMap (fun i => W0[i]?) = w0 := by
    have h1 : isC.filterMap (fun i => W0[i]?) = (isC.map (fun i => W0[i]?)).filterMap id := by rw [List.filterMap_map]; rfl
    rw [h1, hC, List.filterMap_map]
    simp
  obtain ⟨⟨-, -, hfr, hlo, hws, hcw, hcode, hini, hy, hln, hlk⟩, hin, hse⟩ := cw
  obtain ⟨hx, hb, hml, ho, -⟩ := F
  obtain ⟨cellB, hcB, hoB, hclB⟩ := va_recv hK (hP.sub isC hC') hc he
  intro T hT X
  subst hT
  obtain ⟨mk, methM, hnamed, hmethM, hstM, habM⟩ := Cond.instanceMethod_spec hin
  obtain ⟨methM', cM, hmethM', -, -, -, -, -, -, hsigM⟩ := Cond.code_spec hnamed hcode
  cases hmethM.symm.trans hmethM'
  obtain ⟨c2, r2, m2, q1, q2, q3, q4, kP, hkP, hkPi⟩ := Cond.selects_spec hse
  cases hclB.symm.trans q1
  cases (State.methodFound?_of_named hnamed hy).symm.trans q2
  cases hnamed.symm.trans q3
  have hsel : selectMethod e.platform s.vm cellB.cls mk = .method mk := by rw [Launch.admits_selectMethod X.admits]; exact q4
  obtain ⟨vm₁, X₁, hstep₁⟩ := X.invokevirtual hx ho hlk hnamed hmethM hstM hkP hkPi hy (a := b) (cell := cellB) hcB (fun z h => by rw [h] at hoB; cases hoB) hsel hmethM habM hkP hkPi (g := F0 m pc ls st0) rfl (argsL := As) (rest := rest) (hlen.trans (hln _ hsigM)) hst (by rw [hb]; exact hd)
  have hpre : ctP D tys w0 T.heap.size (.ref b :: As) (Value.ref b :: As).toArray (T.setVm vm₁) := cc_at (av := .ref b :: As) hK hN hP hD hS hA isC hC hnC (T.setVm vm₁) rfl X₁.warmed
  obtain ⟨q, ce, T', L, k1, k2, k3, k4, k5, k6, k7, k8, k9⟩ := x_core hM X₁ (g := F0 m pc ls rest) (ig := .invokevirtual index) rfl (hsz.trans hml.symm) (by rw [hb]; exact hd) (lv_room hcat) (X₁.named hnamed) hfr hlo hws hcw hini hf.1 hf.2 hpre
  refine ⟨q, ce, T', L, k1, k2, k3, k4, ?_, k6, k7, k8, fun target h => hstep₁ _ fun acts => by rw [doInvoke_state]; exact k9.trans h⟩
  rw [X₁.warmed.alike.findClass] at k5
  exact k5
set_option maxHeartbeats 1000000 in
theorem x_S (F : CallFix p m c cc nL s args gt own) (hM : cx l y ws rm D tys As w0 E) (cw : CallB R s args own index y bytes maxL ret ws rm rm.cells rm.slots n ∧ (Cond.static y).before args s = true) (hK : va_K D vwCl tys s) (hN : EV A s)
    (hP : va_P D vwCl W0 H) (hD : va_D A W0) (hS : va_S A s.heap H locs) (hA : ∀ q, s.heap.size ≤ q → A q) (isC : List Nat) (hC : isC.map (fun i => W0[i]?) = w0.map some) (hnC : va_nd isC = true)
    (hlen : As.length = n) (hsz : ls.size = nL) (hst : st0 = As.reverse ++ rest) (hcat : (rest.map fun v => v.category).sum ≤ 8) (hd : decode cc pc = .ok (.invokestatic index, 3)) (hf : cells + rm.cells ≤ R.cells ∧ slots + rm.slots ≤ R.slots) :
    XRun p l e R s m args below meth c H locs cells slots rm.cells rm.slots (F0 m pc ls st0) (F0 m pc ls rest) D w0 E := by
  obtain ⟨⟨-, -, hfr, hlo, hws, hcw, hcode, hini, hy, hln, hlk⟩, hstt⟩ := cw
  obtain ⟨hx, hb, hml, ho, -⟩ := F
  intro T hT X
  subst hT
  obtain ⟨mk, hnamed⟩ := Cond.code_named hcode
  obtain ⟨methM, cM, hmethM, -, -, -, -, -, -, hsigM⟩ := Cond.code_spec hnamed hcode
  obtain ⟨kP, hkP, -⟩ := className_of_methodNamed hnamed
  obtain ⟨vm₁, X₁, hstep₁⟩ := X.invokestatic hx ho hlk hnamed hmethM (Cond.static_spec hnamed hmethM hstt) hkP (Cond.initialized_spec (findClass_of_methodNamed hnamed) hkP hini) hy (g := F0 m pc ls st0) rfl (argsL := As) (rest := rest) (hlen.trans (hln _ hsigM)) hst (by rw [hb]; exact hd)
  have hpre : ctP D tys w0 T.heap.size As As.toArray (T.setVm vm₁) := cc_at (av := As) hK hN hP hD hS hA isC hC hnC (T.setVm vm₁) rfl X₁.warmed
  obtain ⟨q, ce, T', L, k1, k2, k3, k4, k5, k6, k7, k8, k9⟩ := x_core hM X₁ (g := F0 m pc ls rest) (ig := .invokestatic index) rfl (hsz.trans hml.symm) (by rw [hb]; exact hd) (lv_room hcat) (X₁.named hnamed) hfr hlo hws hcw hini hf.1 hf.2 hpre
  refine ⟨q, ce, T', L, k1, k2, k3, k4, ?_, k6, k7, k8, fun target h => hstep₁ _ fun acts => by rw [doInvoke_state]; exact k9.trans h⟩
  rw [X₁.warmed.alike.findClass] at k5
  exact k5
/-- what came back, beside the rest -/
theorem x_join (hP : va_P D vwCl W0 H) (hD : va_D A W0) (hS : va_S A s.heap H locs) (hA : ∀ q, s.heap.size ≤ q → A q) (isC isR : List Nat) (hC : isC.map (fun i => W0[i]?) = w0.map some) (hR : isR.map (fun i => W0[i]?) = wr.map some) (hnC : va_nd isC = true) (hn : va_nd isR = true) (hdis : ∀ i ∈ isR, i ∉ isC)
    {H1 : Heap} {L : List Loc} (hL : ∀ z ∈ L, va_A w0 H.size z.base) (hP1 : va_P D vwCl w0 H1) (hz : H.size ≤ H1.size) (hk : ∀ q : Nat, q < H.size → ¬ va_A w0 H.size q → H1[q]? = H[q]?) :
    va_P D vwCl (wr ++ w0) H1 ∧ va_D A (wr ++ w0) ∧ va_S A s.heap H1 (locs ++ L) := by
  have hF := va_free (wc := w0) hD hS hA isC hC
  have hD0 : va_D (va_A w0 H.size) w0 := (hD.sub isC hnC hC).self
  obtain ⟨hPn, hDn⟩ := va_join (wr := wr) (w1 := w0) hP hD isC isR hC hR hn hdis hk hF hP1 hD0
  exact ⟨hPn, hDn, Nat.le_trans hS.1 hz, fun q h1 h2 => by rw [hk q (Nat.lt_of_lt_of_le h1 hS.1) (fun z => h2 (hF q z))]; exact hS.2.1 q h1 h2, fun q hq => by
    rcases List.mem_append.mp hq with h | h
    · exact hS.2.2 q h
    · exact hF _ (hL q h)⟩
/-- the exception goes on to the caller -/
theorem x_out {w : va_W} {mc ms : Nat} {g : JFrame} (hr : XRun p l e R s m args below meth c H locs cells slots rm.cells rm.slots g (F0 m pc ls rest) D w0 E)
    (hP : va_P D vwCl W0 H) (hD : va_D A W0) (hS : va_S A s.heap H locs) (hA : ∀ q, s.heap.size ≤ q → A q) (isC isR : List Nat) (hC : isC.map (fun i => W0[i]?) = w0.map some) (hR : isR.map (fun i => W0[i]?) = wr.map some) (hnC : va_nd isC = true) (hn : va_nd isR = true) (hdis : ∀ i ∈ isR, i ∉ isC)
    (is : List Nat) (hw : is.filterMap (fun i => (wr ++ w0)[i]?) = w) (hc2 : cells + rm.cells ≤ mc) (hs2 : slots + rm.slots ≤ ms)
    (hQ : meth.locks = false ∧ (∀ x ∈ c.exceptionTable.toList, False) ∧ ∀ t, XQ below D w E A s mc ms t → Q t) : W p l e R s m args below meth c H locs cells slots Q g := by
  intro T hT X
  obtain ⟨hlocks, hnone, hQ⟩ := hQ
  obtain ⟨q, ce, T', L, X', hL, k3, k4, k5, k6, k7, k8, k9⟩ := hr T hT X
  obtain ⟨hPn, hDn, hSn⟩ := x_join hP hD hS hA isC isR hC hR hnC hn hdis hL k6 k7 k8
  obtain ⟨st1, hrun, hend, hW, hsm⟩ := X'.leaveThrown q (g := F0 m pc ls rest) rfl rfl rfl (fun x hx => (hnone x hx).elim) hlocks
  exact ⟨_, k9 _ st1, hQ _ ⟨q, ce, locs ++ L, hrun, hend, k3, k4, k5, hW, hsm.mono hc2 hs2, hSn.2.2, hPn.sub is hw, hSn.F rfl⟩⟩
end XC
