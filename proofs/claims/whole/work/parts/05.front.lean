/-! 05.front: how a call begins; how a throw ends; how a handler is found. -/
section XM6
variable {p : Program} {l : Launch} {e : Env} {R : Room} {s : State} {m : MethodId} {args : Array Value} {below : List Frame} {meth : Method} {c : Code} {T : State} {H : Heap} {locs : List Loc} {cells slots : Nat} {Q : State → Prop}
/-- a call stands at its callee's door -/
def xm_Fr (p : Program) (l : Launch) (e : Env) (R : Room) (s : State) (m : MethodId) (args : Array Value) (below : List Frame) (meth : Method) (c : Code) (T : State) (locs : List Loc) (cells slots : Nat) (g : JFrame) (rest : List Value) (y : MethodName) (a : Array Value) : Prop :=
  ∃ (vm₁ : Vm) (mk : MethodId), Stand p l e R s m args below meth c (T.setVm vm₁) locs cells slots ∧ s.methodNamed? y = some mk ∧
    ∀ target, (∀ acts, Steps p.tables e below (doInvoke e ((T.setVm vm₁).setTop { g with stack := rest }) acts mk a).1 target) → Steps p.tables e below (T.setTop g) target
theorem xm_par {y : MethodName} {n k : Nat} {sig : MethodDescriptor} (h : (parseMethodDescriptor y.desc).map (fun d => d.parameters.length) = some n) (hs : parseMethodDescriptor y.desc = some sig) (hk : k = n) : k = sig.parameters.length := by
  rw [hs] at h
  rw [hk]
  exact (Option.some.inj h).symm
theorem xm_fV (X : Stand p l e R s m args below meth c T locs cells slots) (hx : p.tables.exec = Jvm.exec) {own C host : String} {ix n : Nat} {y : MethodName} {bytes : ByteArray} {maxL : Nat} {ret : Option FieldType} {hs : List (Nat × Nat × Nat × Nat)}
    (hown : s.vm.findClass own = some m.cls) (hlink : (Cond.methodLink own ix y).before args s = true ∨ (Cond.methodLinkNest own ix y host).before args s = true) (hinst : (Cond.instanceMethod y).before args s = true) (hsel : (Cond.selects C y y).before args s = true) (hcode : (Cond.codeWith y bytes maxL ret hs).before args s = true)
    (hy : y.cls ≠ "java/lang/invoke/MethodHandle" ∧ y.cls ≠ "java/lang/invoke/VarHandle") (hpar : (parseMethodDescriptor y.desc).map (fun d => d.parameters.length) = some n)
    {b : Addr} {cellB : Cell} (hcell : T.heap[b]? = some cellB) (hobj : cellB.vm.isStatics = false) (hcls : s.vm.findClass C = some cellB.cls)
    {g : JFrame} (hg : g.method = m) {argsL rest : List Value} (hlen : argsL.length = n) (hstack : g.stack = argsL.reverse ++ .ref b :: rest) (hdg : decode c.code g.pc = .ok (.invokevirtual ix, 3)) :
    xm_Fr p l e R s m args below meth c T locs cells slots g rest y (.ref b :: argsL).toArray := by
  obtain ⟨mk, methM, hnamed, hmethM, hstM, habM⟩ := Cond.instanceMethod_spec hinst
  obtain ⟨mk', methM', cM, hnamed', hmethM', -, -, -, -, -, -, hsigM⟩ := Cond.codeWith_spec hcode
  cases hnamed.symm.trans hnamed'
  cases hmethM.symm.trans hmethM'
  obtain ⟨c2, r2, m2, q1, q2, q3, q4, kP, hkP, hkPi⟩ := Cond.selects_spec hsel
  cases hcls.symm.trans q1
  cases (State.methodFound?_of_named hnamed hy).symm.trans q2
  cases hnamed.symm.trans q3
  have hselP : selectMethod e.platform s.vm cellB.cls mk = .method mk := by rw [Launch.admits_selectMethod X.admits]; exact q4
  have hob : ∀ z, cellB.vm ≠ .statics z := fun z h => by rw [h] at hobj; cases hobj
  rcases hlink with hl | hl
  · obtain ⟨vm₁, X₁, st⟩ := X.invokevirtual hx hown hl hnamed hmethM hstM hkP hkPi hy (a := b) (cell := cellB) hcell hob hselP hmethM habM hkP hkPi (g := g) hg (argsL := argsL) (rest := rest) (xm_par hpar hsigM hlen) hstack hdg
    exact ⟨vm₁, mk, X₁, hnamed, st⟩
  · obtain ⟨vm₁, X₁, st⟩ := X.invokevirtualNest hx hown hl hnamed hmethM hstM hkP hkPi hy (a := b) (cell := cellB) hcell hob hselP hmethM habM hkP hkPi (g := g) hg (argsL := argsL) (rest := rest) (xm_par hpar hsigM hlen) hstack hdg
    exact ⟨vm₁, mk, X₁, hnamed, st⟩
theorem xm_fS (X : Stand p l e R s m args below meth c T locs cells slots) (hx : p.tables.exec = Jvm.exec) {own host : String} {ix n : Nat} {y : MethodName} {bytes : ByteArray} {maxL : Nat} {ret : Option FieldType} {hs : List (Nat × Nat × Nat × Nat)}
    (hown : s.vm.findClass own = some m.cls) (hlink : (Cond.methodLink own ix y).before args s = true ∨ (Cond.methodLinkNest own ix y host).before args s = true) (hstat : (Cond.static y).before args s = true) (hinit : (Cond.initialized y.cls).before args s = true) (hcode : (Cond.codeWith y bytes maxL ret hs).before args s = true)
    (hy : y.cls ≠ "java/lang/invoke/MethodHandle" ∧ y.cls ≠ "java/lang/invoke/VarHandle") (hpar : (parseMethodDescriptor y.desc).map (fun d => d.parameters.length) = some n)
    {g : JFrame} (hg : g.method = m) {argsL rest : List Value} (hlen : argsL.length = n) (hstack : g.stack = argsL.reverse ++ rest) (hdg : decode c.code g.pc = .ok (.invokestatic ix, 3)) :
    xm_Fr p l e R s m args below meth c T locs cells slots g rest y argsL.toArray := by
  obtain ⟨mk, methM, cM, hnamed, hmethM, -, -, -, -, -, -, hsigM⟩ := Cond.codeWith_spec hcode
  have hstatic : methM.isStatic = true := Cond.static_spec hnamed hmethM hstat
  obtain ⟨kP, hkP, -⟩ := className_of_methodNamed hnamed
  have hinitP : kP.init = .initialized := Cond.initialized_spec (findClass_of_methodNamed hnamed) hkP hinit
  rcases hlink with hl | hl
  · obtain ⟨vm₁, X₁, st⟩ := X.invokestatic hx hown hl hnamed hmethM hstatic hkP hinitP hy (g := g) hg (argsL := argsL) (rest := rest) (xm_par hpar hsigM hlen) hstack hdg
    exact ⟨vm₁, mk, X₁, hnamed, st⟩
  · obtain ⟨vm₁, X₁, st⟩ := X.invokestaticNest hx hown hl hnamed hmethM hstatic hkP hinitP hy (g := g) hg (argsL := argsL) (rest := rest) (xm_par hpar hsigM hlen) hstack hdg
    exact ⟨vm₁, mk, X₁, hnamed, st⟩
theorem xm_fI (X : Stand p l e R s m args below meth c T locs cells slots) (hx : p.tables.exec = Jvm.exec) {own host : String} {ix n : Nat} {y : MethodName} {bytes : ByteArray} {maxL : Nat}
    (hown : s.vm.findClass own = some m.cls) (hlink : (Cond.methodLink own ix y).before args s = true ∨ (Cond.methodLinkNest own ix y host).before args s = true) (hinst : (Cond.instanceMethod y).before args s = true) (hcode : (Cond.codeWith y bytes maxL none []).before args s = true) (hy1 : y.name = "<init>")
    (hy : y.cls ≠ "java/lang/invoke/MethodHandle" ∧ y.cls ≠ "java/lang/invoke/VarHandle") (hpar : (parseMethodDescriptor y.desc).map (fun d => d.parameters.length) = some n)
    {b : Addr} {g : JFrame} (hg : g.method = m) {argsL rest : List Value} (hlen : argsL.length = n) (hstack : g.stack = argsL.reverse ++ .ref b :: rest) (hdg : decode c.code g.pc = .ok (.invokespecial ix, 3)) :
    xm_Fr p l e R s m args below meth c T locs cells slots g rest y (.ref b :: argsL).toArray := by
  have hpl : e.platform.magicAccessors = ({} : Platform).magicAccessors := by rw [X.admits.platform]
  have hcode' : (Cond.code y bytes maxL none).before args s = true := by
    unfold Cond.before Cond.holds
    rw [Cond.code_iff_codeWith_nil]
    exact hcode
  subst hg
  rcases hlink with hl | hl
  · obtain ⟨mk, methM, cM, kP, vm₁, hnamed, -, -, -, -, -, -, -, hW₁, st⟩ := Steps.initColdArgs (e := e) X.here hx X.warmed hpl hown hy1 hy hl hinst hcode' (f := g) rfl (fun sig h => xm_par hpar h hlen) hstack hdg
    exact ⟨vm₁, mk, X.noted hW₁, hnamed, st⟩
  · obtain ⟨mk, methM, cM, kP, vm₁, hnamed, -, -, -, -, -, -, -, hW₁, st⟩ := Steps.initColdArgsNest (e := e) X.here hx X.warmed hpl hown hy1 hy hl hinst hcode' (f := g) rfl (fun sig h => xm_par hpar h hlen) hstack hdg
    exact ⟨vm₁, mk, X.noted hW₁, hnamed, st⟩
/-- with no slot freed every old cell is as it was -/
theorem xm_same0 {s t : State} {k n : Nat} (h : s.sameButNew t [] k n) {q : Nat} (hq : q < s.heap.size) : t.heap[q]? = s.heap[q]? := by
  have hc : s.heap[q]? = some s.heap[q] := Array.getElem?_eq_getElem hq
  obtain ⟨c', h1, h2, h3, h4⟩ := h.2.2.2.2.2 q _ hc
  rw [h1, hc, h2]
  have h5 : c'.slots = (s.heap[q]).slots := by
    apply Array.ext_getElem?
    intro i
    exact h4 i (by simp)
  rw [h5]
end XM6
section XM7
variable {p : Program} {l : Launch} {e : Env} {R : Room} {s : State} {m : MethodId} {args : Array Value} {below : List Frame} {meth : Method} {c : Code} {T : State} {H : Heap} {locs : List Loc} {cells slots : Nat} {Q : State → Prop}
variable {WS : Cond → Bool} {cl : List vw_C} {kt : List FieldType} {dA : Nat → ClassId} {D : va_G} {B0 sb LS : Nat} {xs : Nat → Int32} {M : xm_M} {h0 : List va_E} {ks0 nL : Nat} {ls : Array Slot}
/-- the search through a table of handlers, each of a class that links, cold or warm -/
theorem xm_find {s0 : State} {f : JFrame} {a : Addr} {cell : Cell} {ci t : Nat} (hobj : ∀ k, cell.vm ≠ .statics k) (hk0 : ∃ k, s0.vm.classes[cell.cls]? = some k) :
    ∀ (es : List ExceptionTableEntry) (hs : List xm_Hd) (S : State), es.map (fun h => (h.startPc, h.endPc, h.handlerPc, h.catchType)) = hs.map (fun h => (h.1, h.2.1, h.2.2.1, h.2.2.2.1)) → s0.WarmedH S.vm → S.heap[a]? = some cell →
      (∀ h ∈ hs, h.2.2.2.1 ≠ 0 ∧ ∃ c', s0.vm.ClassLinks e.platform f.method.cls h.2.2.2.1 c' ∧ s0.vm.assignable cell.cls c' = (h.2.2.2.2 == ci)) →
      (hs.find? (fun x => decide (x.1 ≤ f.pc) && decide (f.pc < x.2.1) && x.2.2.2.2 == ci)).map (fun x => x.2.2.1) = some t →
      ∃ vm', s0.WarmedH vm' ∧ ∀ (Q : Handler → Pre) (E : CtlPost) (d : Bool) (acts : List Action), wp (findHandler.go f a es) Q E e d acts S ↔ Q (.found t) d acts (S.setVm vm') := by
  obtain ⟨k0, hk0⟩ := hk0
  intro es
  induction es with
  | nil =>
    intro hs S hm hW hcell hh ht
    cases hs with
    | nil => simp at ht
    | cons h r => simp at hm
  | cons x r ih =>
    intro hs S hm hW hcell hh ht
    cases hs with
    | nil => simp at hm
    | cons h hr =>
      simp only [List.map_cons, List.cons.injEq, Prod.mk.injEq] at hm
      obtain ⟨⟨m1, m2, m3, m4⟩, hm⟩ := hm
      obtain ⟨h0, c', hl, has⟩ := hh h List.mem_cons_self
      have hh' : ∀ y ∈ hr, y.2.2.2.1 ≠ 0 ∧ ∃ c', s0.vm.ClassLinks e.platform f.method.cls y.2.2.2.1 c' ∧ s0.vm.assignable cell.cls c' = (y.2.2.2.2 == ci) := fun y hy => hh y (List.mem_cons_of_mem _ hy)
      obtain ⟨k0', hk0', -⟩ := hW.alike.2.2 _ _ hk0
      by_cases hcov : (decide (h.1 ≤ f.pc) && decide (f.pc < h.2.1)) = true
      · have hcov' : (decide (x.startPc ≤ f.pc) && decide (f.pc < x.endPc)) = true := by rw [m1, m2]; exact hcov
        obtain ⟨dk, _, _, kt, hd, _, _, _, _, hkt, _, hopen⟩ := hl.here
        obtain ⟨kt', hkt', -⟩ := hW.alike.2.2 _ _ hkt
        have hlS := hW.classLinks hl
        obtain ⟨ha, hT⟩ := (resolveClass_links e.toSetting hlS).op (op := VmOp.resolveClass f.method.cls h.2.2.2.1) rfl
        have hal : S.vm.Alike (S.vm.noted f.method.cls h.2.2.2.1 (.cls c')) := (Vm.Alike.refl S.vm).noted _ _ _
        obtain ⟨k1, hk1, -⟩ := hal.2.2 _ _ hk0'
        obtain ⟨k2, hk2, -⟩ := hal.2.2 _ _ hkt'
        have hWn := hW.noted hd hopen (State.rightAt_cls hl)
        have has' : (S.vm.noted f.method.cls h.2.2.2.1 (.cls c')).assignable cell.cls c' = (h.2.2.2.2 == ci) := by rw [hal.assignable, hW.alike.assignable]; exact has
        by_cases hci : (h.2.2.2.2 == ci) = true
        · rw [List.find?_cons_of_pos (by simp only [hcov, hci, Bool.and_self])] at ht
          simp only [Option.map_some, Option.some.injEq] at ht
          rw [hci] at has'
          refine ⟨_, hWn, fun Q E d acts => ?_⟩
          rw [← m4] at ha hT hk1 hk2 has' h0 ⊢
          rw [← ht, ← m3]
          simp only [Bool.and_eq_true, decide_eq_true_eq] at hcov'
          simp [findHandler.go, hcov'.1, hcov'.2, h0, ha, hT, hcell, hobj, hk1, hk2, has', VmOp.dirties, VmOp.acts]
        · have hci' : (h.2.2.2.2 == ci) = false := by simpa using hci
          rw [List.find?_cons_of_neg (by simp only [hci', Bool.and_false]; decide)] at ht
          rw [hci'] at has'
          obtain ⟨vm', hW', hq⟩ := ih hr (S.setVm (S.vm.noted f.method.cls h.2.2.2.1 (.cls c'))) hm hWn hcell hh' ht
          refine ⟨vm', hW', fun Q E d acts => ?_⟩
          rw [← m4] at ha hT hk1 hk2 has' h0 hq
          have hq := hq Q E d acts
          simp only [Bool.and_eq_true, decide_eq_true_eq] at hcov'
          rw [show (S.setVm vm') = (S.setVm (S.vm.noted f.method.cls x.catchType (.cls c'))).setVm vm' from rfl, ← hq]
          simp [findHandler.go, hcov'.1, hcov'.2, h0, ha, hT, hcell, hobj, hk1, hk2, has', VmOp.dirties, VmOp.acts]
      · have hcov0 : (decide (h.1 ≤ f.pc) && decide (f.pc < h.2.1)) = false := by simpa using hcov
        rw [List.find?_cons_of_neg (by simp only [hcov0, Bool.false_and]; decide)] at ht
        obtain ⟨vm', hW', hq⟩ := ih hr S hm hW hcell hh' ht
        refine ⟨vm', hW', fun Q E d acts => ?_⟩
        rw [← hq Q E d acts]
        exact W.findHandler_go_skip (by unfold covers; rw [m1, m2]; exact hcov0)
/-- what a callee threw is caught here -/
theorem xm_caught (X : Stand p l e R s m args below meth c T locs cells slots) {g : JFrame} (hg : g.method = m) {a : Addr} {cell : Cell} {ci t : Nat} (hcell : T.heap[a]? = some cell) (hobj : cell.vm.isStatics = false) (hk0 : ∃ k, s.vm.classes[cell.cls]? = some k) {hs : List xm_Hd}
    (hm : c.exceptionTable.toList.map (fun h => (h.startPc, h.endPc, h.handlerPc, h.catchType)) = hs.map (fun h => (h.1, h.2.1, h.2.2.1, h.2.2.2.1)))
    (hh : ∀ h ∈ hs, h.2.2.2.1 ≠ 0 ∧ ∃ c', s.vm.ClassLinks e.platform m.cls h.2.2.2.1 c' ∧ s.vm.assignable cell.cls c' = (h.2.2.2.2 == ci))
    (ht : (hs.find? (fun x => decide (x.1 ≤ g.pc) && decide (g.pc < x.2.1) && x.2.2.2.2 == ci)).map (fun x => x.2.2.1) = some t) :
    ∃ vm', Stand p l e R s m args below meth c (T.setVm vm') locs cells slots ∧
      ∀ target, Steps p.tables e below ((T.setVm vm').setTop { g with pc := t, stack := [.ref a] }) target → Steps p.tables e below ((T.setTop g).pushFrame (.throwing a)) target := by
  subst hg
  have hvm : ((T.setTop g).pushFrame (.throwing a)).vm = T.vm := Stand.throwing_vm T g a
  obtain ⟨vm', hW', hq⟩ := xm_find (e := e) (f := g) (a := a) (VmData.ne_statics_of hobj) hk0 c.exceptionTable.toList hs ((T.setTop g).pushFrame (.throwing a)) hm (by rw [hvm]; exact X.warmed) (by rw [Stand.throwing_heap]; exact hcell) hh ht
  refine ⟨vm', X.noted hW', fun target hrest => ?_⟩
  obtain ⟨hgo, hw⟩ := X.here.throwing (g := g) a
  refine Steps.head hgo hw ?_
  have hfind : ∀ (Q : Handler → Pre) (E : CtlPost) (d : Bool) (acts : List Action), wp (findHandler g a) Q E e d acts ((T.setTop g).pushFrame (.throwing a)) ↔ Q (.found t) d acts (((T.setTop g).pushFrame (.throwing a)).setVm vm') := fun Q E d acts => by
    rw [W.findHandler_eq (meth := meth) (code := c) (by rw [hvm]; exact X.method') X.code]
    exact hq Q E d acts
  have hstep : (stepThrowing e ((T.setTop g).pushFrame (.throwing a)) a (.java g :: T.frames.tail)).1 = (((T.setTop g).pushFrame (.throwing a)).setVm vm').setFrames (.java { g with pc := t, stack := [.ref a] } :: T.frames.tail) := by
    simp only [stepThrowing, searchFrame, vmDo]
    generalize hr : Sem.go _ e false [] ((T.setTop g).pushFrame (.throwing a)) = res
    obtain ⟨as, rfl, -⟩ := Sem.eq_ok_of hr (a := Handler.found t) (s' := ((T.setTop g).pushFrame (.throwing a)).setVm vm') (acts' := []) (by simp [hfind _ _ _ _])
    rfl
  rw [stepThread_throwing (frames_entered X.here.top _), hstep]
  obtain ⟨g₀, hfr⟩ := X.frames_eq
  have hfr' : (T.setVm vm').frames = .java g₀ :: below := hfr
  rw [State.setTop_of_frames _ hfr'] at hrest
  have e1 : (((T.setTop g).pushFrame (.throwing a)).setVm vm').setFrames (.java { g with pc := t, stack := [.ref a] } :: T.frames.tail) = (T.setVm vm').setFrames (.java { g with pc := t, stack := [.ref a] } :: below) := by
    rw [X.tail, State.pushFrame, State.setTop_of_frames _ hfr]
    show (((T.setFrames _).setFrames _).setVm vm').setFrames _ = _
    have e2 : ∀ (u : State) (F G : List Frame), ((u.setFrames F).setVm vm').setFrames G = (u.setVm vm').setFrames G := fun u F G => by
      have e3 : (u.setFrames F).setVm vm' = (u.setVm vm').setFrames F := rfl
      rw [e3, State.setFrames_setFrames]
    rw [e2, e2]
  rw [e1]
  exact hrest
end XM7
