/-! 06.sim: the whole run. -/
section XM8
variable {p : Program} {l : Launch} {e : Env} {R : Room} {s : State} {m : MethodId} {args : Array Value} {below : List Frame} {meth : Method} {c : Code} {T : State} {H : Heap} {locs : List Loc} {cells slots : Nat} {Q : State → Prop}
variable {WS : Cond → Bool} {cl : List vw_C} {kt : List FieldType} {df : List (List Value)} {dA : Nat → ClassId} {D : va_G} {B0 sb LS : Nat} {xs : Nat → Int32} {M : xm_M} {P : List xm_M} {h0 : List va_E} {ks0 nL : Nat} {ls : Array Slot}
theorem xm_le.tr {s0 s u : State} (h : xm_le s0 s) (hW : s.WarmedH u.vm) (hz : s0.heap.size ≤ u.heap.size) (hq : ∀ q : Nat, q < s0.heap.size → u.heap[q]? = s.heap[q]?) : xm_le s0 u :=
  ⟨State.WarmedH.trans h.1 hW, hz, fun q hl => (hq q hl).trans (h.2.2 q hl)⟩
theorem xm_isRef {C n d : String} {s0 s : State} {a a' : Array Value} (h : (Cond.isRef (.static C n d)).before a s0 = true) (hle : xm_le s0 s) : (Cond.isRef (.static C n d)).before a' s = true := by
  have h1 : (Cond.isRef (.static C n d)).before a (s0.setVm s.vm) = true := Cond.before_warmed hle.1 _ (by rfl) h
  simp only [Cond.before, Cond.holds, Cond.value, Term.eval] at h1 ⊢
  have hf : (s0.setVm s.vm).fieldNamed? C n d true = s.fieldNamed? C n d true := rfl
  rw [hf] at h1
  cases hfn : s.fieldNamed? C n d true with
  | none => rw [hfn] at h1; simp at h1
  | some x =>
    obtain ⟨c0, k, slot⟩ := x
    rw [hfn] at h1
    cases hst : k.statics with
    | none => simp [hst] at h1
    | some a0 =>
      cases hc : s0.heap[a0]? with
      | none =>
        simp [hst, hc] at h1
      | some cell =>
        have hc2 : s.heap[a0]? = some cell := by rw [hle.2.2 a0 (Array.getElem?_eq_some_iff.mp hc).1]; exact hc
        simp [hst, hc] at h1
        simp [hst, hc2, h1]
theorem xm_lays {C n d : String} {s0 s : State} {a a' : Array Value} (h : (Cond.laysStatic C n d).before a s0 = true) (hle : xm_le s0 s) : (Cond.laysStatic C n d).before a' s = true := by
  obtain ⟨c, k, i, f, a0, cell, h1, h2, h3, h4, h5, h6, h7, h8, h9⟩ := Cond.laysStatic_spec h
  have hvm := hle.1.alike
  obtain ⟨k', hi', he⟩ := State.fieldFound?_setVm hvm h2
  show (Cond.laysStatic C n d).holds a' s none s [] = true
  exact Cond.laysStatic_of (by rw [hvm.findClass]; exact h1) hi' h3 (by rw [he]; exact h4) (by rw [hle.2.2 a0 (Array.getElem?_eq_some_iff.mp h5).1]; exact h5) h6 h7 h8 (by rw [he]; exact h9)
/-- the names between an exception's class and Throwable -/
def xm_mid : List String := ["java/lang/RuntimeException", "java/lang/Exception"]
/-- the words of a throw -/
def xm_okT (WS : Cond → Bool) (cl : List vw_C) (M : xm_M) (x : xm_I) : Bool :=
  match x with
  | (pc, .new ix, a, b, _, d) => if d = 1 then match cl[a]? with
    | some (C, _, N) => (N == 0) && WS (Cond.classLink M.1.cls ix C) && WS (Cond.initialized C) && Bundle.fit C && decide (decode M.2.1 (pc + 3) = .ok (.dup, 1)) && decide (decode M.2.1 (pc + 4) = .ok (.invokespecial b, 3)) && decide (decode M.2.1 (pc + 7) = .ok (.athrow, 1)) &&
        (Bundle.ownAtoms0 M.1.cls b C xm_mid).all (fun w => WS (w) || decide (w = .isRef (.static Bundle.tN "UNASSIGNED_STACK" Bundle.steD)) || decide (w = .isRef (.static Bundle.tN "SUPPRESSED_SENTINEL" Bundle.listD)) || decide (w = .laysStatic Bundle.tN "UNASSIGNED_STACK" Bundle.steD) || decide (w = .laysStatic Bundle.tN "SUPPRESSED_SENTINEL" Bundle.listD))
    | none => false
    else true
  | _ => true
set_option maxHeartbeats 4000000 in
set_option maxRecDepth 100000 in
theorem xm_thr (hx : p.tables.exec = Jvm.exec) (htr : l.admits e → e.platform.stackTraces = false) (hb : c.code = M.2.1) (hml : c.maxLocals = nL) (hlk : meth.locks = false) (hown : s.vm.findClass M.1.cls = some m.cls) (hts : ∀ w, WS w = true → w.before args s = true) (hK : va_K D cl (xm_tys kt dA) s)
    (hz1 : (Cond.isRef (.static Bundle.tN "UNASSIGNED_STACK" Bundle.steD)).before args s = true) (hz2 : (Cond.isRef (.static Bundle.tN "SUPPRESSED_SENTINEL" Bundle.listD)).before args s = true) (hz3 : (Cond.laysStatic Bundle.tN "UNASSIGNED_STACK" Bundle.steD).before args s = true) (hz4 : (Cond.laysStatic Bundle.tN "SUPPRESSED_SENTINEL" Bundle.listD).before args s = true) (hsz : s.heap.size = B0 + h0.length) (hRf : 6 ≤ R.frames) (hRl : 128 ≤ R.locals) (hnoH : c.exceptionTable.toList = [])
    {ix a b k d pc : Nat} {L : List (Option Value)} {st : List Value} {S : xm_S} (hd : d = 1) (hst : st.length ≤ 4) (hok : xm_ok WS cl M (pc, .new ix, a, b, k, d) = true) (hokT : xm_okT WS cl M (pc, .new ix, a, b, k, d) = true) (hclean : S.2.2 = true)
    (hc1 : S.1.length + 1 ≤ R.cells + h0.length) (hc2 : S.2.1 + 6 ≤ R.slots + ks0) (hV : xm_V D cl dA B0 sb s h0 ks0 nL L S H locs cells slots ls) :
    W p l e R s m args below meth c H locs cells slots (xm_End D cl dA B0 sb s below h0 ks0 (.inr S.1.length) (S.1 ++ [.inr (a, [])], S.2.1 + 6, true)) (F0 m pc ls (st.map (xm_tv B0 sb))) := by
  simp only [xm_ok, Bool.and_eq_true, decide_eq_true_eq] at hok
  have hdg := hok.1
  subst hd
  simp only [xm_okT, if_true] at hokT
  split at hokT
  case h_2 => cases hokT
  rename_i C T0 N hc
  simp only [Bool.and_eq_true, decide_eq_true_eq, beq_iff_eq, List.all_eq_true, Bool.or_eq_true] at hokT
  obtain ⟨⟨⟨⟨⟨⟨⟨o0, o1⟩, o3⟩, o4⟩, o5⟩, o6⟩, o7⟩, o8⟩ := hokT
  subst o0
  have hat : ∀ w ∈ Bundle.ownAtoms0 M.1.cls b C xm_mid, w.before args s = true := fun w hw => by
    rcases o8 w hw with (((h | h) | h) | h) | h
    · exact hts _ h
    · rw [h]; exact hz1
    · rw [h]; exact hz2
    · rw [h]; exact hz3
    · rw [h]; exact hz4
  have hins : (Cond.instantiable C 6).before args s = true := hat _ (by simp [Bundle.ownAtoms0])
  have e4 := hV.2.2.2.1
  have e5 := hV.2.2.2.2.1
  obtain ⟨hl0, hS0⟩ := hV.2.2.2.2.2 hclean
  subst hl0
  have hPw := hV.2.1
  refine xm_size hsz hV fun hHs => ?_
  refine W.newc hx hb hown (hts _ o1) hins (hts _ o3) rfl hdg (by omega) (by omega) (fun cC kC f1 f2 f3 f4 => ?_)
  refine W.eq (g2 := F0 m (pc + 3) ls (.ref H.size :: st.map (xm_tv B0 sb))) rfl ?_
  refine lv_dup hx hb o5 rfl ?_
  intro T hT X
  have hTz : T.heap.size = H.size + 1 := by rw [hT]; simp
  have hcell : T.heap[H.size]? = some ({ cls := cC, slots := kC.instanceTypes.map defaultValue, vm := .none } : Cell) := by rw [hT]; simp
  have hTo : ∀ q : Nat, q < H.size → T.heap[q]? = H[q]? := fun q hq => by rw [hT, Array.getElem?_push, if_neg (Nat.ne_of_lt hq)]
  have hsum := xm_sum (B0 := B0) (sb := sb) st
  obtain ⟨U, hst, hrun, hend, hWU, hsame, ce, hce, hoc⟩ := X.ctorThrow0 hx (htr X.admits) (own := M.1.cls) (cls := C) (names := xm_mid) (ic := b) hown o4 (by decide) hat (fun y hy => by cases hy) f1 f2 hcell (by omega)
    (g := F0 m (pc + 4) ls (.ref H.size :: .ref H.size :: st.map (xm_tv B0 sb))) rfl (by show ls.size = _; rw [hml]; exact hV.1.1) rfl rfl rfl (by rw [hb]; exact o6) (by rw [hb]; exact o7) (by rw [hnoH]; intro y hy; cases hy) (by show 2 + 3 < _; omega)
    (by show 2 * 0 + ((Value.ref H.size :: st.map (xm_tv B0 sb)).map fun v => v.category).sum + (13 * (2 + 1) + 41) ≤ _
        have hc1 : (Value.ref H.size).category = 1 := rfl
        simp only [List.map_cons, List.sum_cons, hc1]
        omega) hlk
  have hU1 : U.heap.size ≤ s.heap.size + (cells + 1) := hsame.2.2.1
  have hU2 : H.size < U.heap.size := (Array.getElem?_eq_some_iff.mp hce).1
  have hUo : ∀ q : Nat, q < s.heap.size → U.heap[q]? = s.heap[q]? := fun q hq => xm_same0 hsame hq
  have hTs : ∀ q : Nat, q < s.heap.size → T.heap[q]? = s.heap[q]? := fun q hq => xm_same0 X.same hq
  have hlen : S.1.length = h0.length := by rw [hS0]
  refine ⟨U, hst, .threw H.size, hrun, hend, ?_, hWU, ?_, ?_, fun q hq => hUo q (by omega), fun i hi => ?_, [], fun q hq => (by cases hq), fun _ => ⟨rfl, fun v hv => by cases hv⟩, fun _ _ => rfl, ?_⟩
  · show Outcome.threw H.size = Outcome.threw (B0 + S.1.length)
    rw [hHs]
  · show va_P D cl (xm_tw dA B0 sb (S.1 ++ [.inr (a, [])])) U.heap
    rw [xm_tw_app]
    refine va_P.app (hPw.kept fun k q hk => ?_) (fun k q hk => ?_)
    · have hq1 : q.1 < H.size := (hPw k q hk).lt
      rw [hUo q.1 (by omega), ← hTs q.1 (by omega), hTo q.1 hq1]
    · have hz : k < 1 := (List.getElem?_eq_some_iff.mp hk).1
      rw [show k = 0 by omega] at hk
      cases hk
      refine ⟨_, hc, ce, ?_, ?_, hoc.vm, fun j hj => by cases hj⟩
      · show U.heap[B0 + S.1.length]? = some ce
        rw [← hHs]
        exact hce
      · exact Option.some.inj (hoc.cls.symm.trans (hK.1 a _ hc).2.1)
  · show U.heap.size = B0 + (S.1 ++ [_]).length
    simp only [List.length_append, List.length_singleton]
    omega
  · cases hi
    exact ⟨a, C, T0, by simp, hc⟩
  · have q1 : (S.1 ++ [(.inr (a, []) : va_E)]).length - h0.length = cells + 1 := by simp only [List.length_append, List.length_singleton]; omega
    have q2 : S.2.1 + 6 - ks0 = slots + 6 := by omega
    show s.sameButNew _ [] ((S.1 ++ [(.inr (a, []) : va_E)]).length - h0.length) (S.2.1 + 6 - ks0)
    rw [q1, q2]
    exact hsame
end XM8
section XM8b
variable {p : Program} {l : Launch} {e : Env} {R : Room} {s : State} {m : MethodId} {args : Array Value} {below : List Frame} {meth : Method} {c : Code} {T : State} {H : Heap} {locs : List Loc} {cells slots : Nat} {Q : State → Prop}
variable {WS : Cond → Bool} {cl : List vw_C} {kt : List FieldType} {df : List (List Value)} {dA : Nat → ClassId} {D : va_G} {B0 sb LS : Nat} {xs : Nat → Int32} {M : xm_M} {P : List xm_M} {h0 : List va_E} {ks0 nL : Nat} {ls : Array Slot}
/-- a method's own words -/
def xm_h4 (M : xm_M) : List (Nat × Nat × Nat × Nat) := M.2.2.2.2.1.map (fun h => (h.1, h.2.1, h.2.2.1, h.2.2.2.1))
def xm_okF (WS : Cond → Bool) (cl : List vw_C) (M : xm_M) : Bool :=
  plainName M.1.cls && decide (M.2.2.1 ≤ 14) && (if M.2.2.2.2.1 = [] then WS (Cond.code M.1 M.2.1 M.2.2.1 M.2.2.2.1) else WS (Cond.codeWith M.1 M.2.1 M.2.2.1 M.2.2.2.1 (xm_h4 M))) && WS (Cond.initialized M.1.cls) &&
  M.2.2.2.2.1.all (fun h => decide (h.2.2.2.1 ≠ 0) && match cl[h.2.2.2.2]? with
    | some (C, _, _) => WS (Cond.classLink M.1.cls h.2.2.2.1 C)
    | none => false)
def xm_okM (WS : Cond → Bool) (cl : List vw_C) (M : xm_M) : Bool := if M.1.name = "law" then M.2.2.2.2.1.isEmpty else xm_okF WS cl M
def xm_okC (WS : Cond → Bool) (cl : List vw_C) (P : List xm_M) (M : xm_M) (x : xm_I) : Bool :=
  match x with
  | (_, .invokevirtual ix, a, b, k, _) => match P[a]?, cl[k]? with
    | some M', some (C, _, _) => (WS (Cond.methodLink M.1.cls ix M'.1) || WS (Cond.methodLinkNest M.1.cls ix M'.1 "FibrePairs")) && WS (Cond.instanceMethod M'.1) && WS (Cond.selects C M'.1 M'.1) && decide (M'.1.cls ≠ "java/lang/invoke/MethodHandle" ∧ M'.1.cls ≠ "java/lang/invoke/VarHandle") && decide ((parseMethodDescriptor M'.1.desc).map (fun d => d.parameters.length + 1) = some b) && decide (b ≤ M'.2.2.1) && decide (M'.1.name ≠ "law")
    | _, _ => false
  | (_, .invokestatic ix, a, b, _, _) => match P[a]? with
    | some M' => (WS (Cond.methodLink M.1.cls ix M'.1) || WS (Cond.methodLinkNest M.1.cls ix M'.1 "FibrePairs")) && WS (Cond.static M'.1) && decide (M'.1.cls ≠ "java/lang/invoke/MethodHandle" ∧ M'.1.cls ≠ "java/lang/invoke/VarHandle") && decide ((parseMethodDescriptor M'.1.desc).map (fun d => d.parameters.length) = some b) && decide (b ≤ M'.2.2.1) && decide (M'.1.name ≠ "law")
    | _ => false
  | (_, .invokespecial ix, a, _, _, d) => if d = 0 then match P[a]? with
    | some M' => (WS (Cond.methodLink M.1.cls ix M'.1) || WS (Cond.methodLinkNest M.1.cls ix M'.1 "FibrePairs")) && WS (Cond.instanceMethod M'.1) && (M'.1.name == "<init>") && decide (M'.2.2.2.2.1 = []) && decide (M'.2.2.2.1 = none) && decide (M'.1.cls ≠ "java/lang/invoke/MethodHandle" ∧ M'.1.cls ≠ "java/lang/invoke/VarHandle") && decide ((parseMethodDescriptor M'.1.desc).map (fun d => d.parameters.length) = some 0) && decide (1 ≤ M'.2.2.1) && decide (M'.1.name ≠ "law")
    | _ => false
    else true
  | (_, .ireturn, _, _, _, d) => match M.2.2.2.1 with
    | some .int => d == 0
    | some .boolean => d == 1
    | _ => false
  | (_, .return_, _, _, _, _) => decide (M.2.2.2.1 = none)
  | _ => true
/-- what stands fast from the law's first state on -/
def xm_Top (WS : Cond → Bool) (cl : List vw_C) (kt : List FieldType) (df : List (List Value)) (P : List xm_M) (dA : Nat → ClassId) (D : va_G) (B0 sb LS : Nat) (xs : Nat → Int32) (s0 : State) : Prop :=
  (∀ w, WS w = true → ∀ (a' : Array Value) (U : State), s0.WarmedH U.vm → w.before a' U = true) ∧ va_K D cl (xm_tys kt dA) s0 ∧ va_X sb LS xs s0 s0.heap ∧ sb < B0 ∧ s0.heap.size = B0 ∧
  (∀ a' : Array Value, (Cond.isRef (.static Bundle.tN "UNASSIGNED_STACK" Bundle.steD)).before a' s0 = true) ∧ (∀ a' : Array Value, (Cond.isRef (.static Bundle.tN "SUPPRESSED_SENTINEL" Bundle.listD)).before a' s0 = true) ∧ (∀ a' : Array Value, (Cond.laysStatic Bundle.tN "UNASSIGNED_STACK" Bundle.steD).before a' s0 = true) ∧ (∀ a' : Array Value, (Cond.laysStatic Bundle.tN "SUPPRESSED_SENTINEL" Bundle.listD).before a' s0 = true) ∧ xm_cls WS cl ∧
  (∀ (mi : Nat) (M : xm_M), P[mi]? = some M → xm_okM WS cl M = true ∧ ∀ x ∈ M.2.2.2.2.2, xm_ok WS cl M x = true ∧ xm_okN WS cl kt df M x = true ∧ xm_okT WS cl M x = true ∧ xm_okC WS cl P M x = true) ∧
  (∀ (M : xm_M) (mi : Nat), P[mi]? = some M → ∀ h ∈ M.2.2.2.2.1, ∀ (ci : Nat) (C C' : String) (T T' : u_T) (N' : Nat), cl[ci]? = some (C, T, 0) → cl[h.2.2.2.2]? = some (C', T', N') → ∀ (U : State), s0.WarmedH U.vm → ∀ (q q' : ClassId), U.vm.findClass C = some q → U.vm.findClass C' = some q' → U.vm.assignable q q' = (h.2.2.2.2 == ci))
/-- a frame of the method M -/
def xm_Frm (p : Program) (R : Room) (s0 s : State) (m : MethodId) (meth : Method) (c : Code) (B0 KC KS d : Nat) (M : xm_M) (h0 : List va_E) (ks0 : Nat) : Prop :=
  p.tables.exec = Jvm.exec ∧ s.vm.findClass M.1.cls = some m.cls ∧ (M.1.name = "<init>" → meth.name = "<init>") ∧ c.code = M.2.1 ∧ c.maxLocals = M.2.2.1 ∧ meth.sig.returnType = M.2.2.2.1 ∧ meth.locks = false ∧
  (M.1.name ≠ "law" → c.exceptionTable.toList.map (fun h => (h.startPc, h.endPc, h.handlerPc, h.catchType)) = xm_h4 M) ∧ xm_le s0 s ∧ s.heap.size = B0 + h0.length ∧ R.frames = d + 1 ∧ R.locals = 33 * d + 58 ∧ R.cells + h0.length = KC ∧ R.slots + ks0 = KS
theorem xm_ins_len {i : Instr} {a b k d pc : Nat} {L : List (Option Value)} {st : List Value} {S S' : xm_S} {F' : xm_F} (hact : xm_ins xs LS kt i a b k d pc L st S = some (.inl (F', S'))) : S'.1.length = S.1.length ∧ S'.2.1 = S.2.1 := by
  unfold xm_ins at hact
  split at hact <;> (try cases hact) <;> (try exact ⟨rfl, rfl⟩) <;> (split at hact) <;> (try cases hact) <;> (try exact ⟨rfl, rfl⟩) <;> (try (split at hact)) <;> (try cases hact) <;> (try exact ⟨rfl, rfl⟩) <;> (try exact ⟨by simp, rfl⟩) <;> (try (split at hact)) <;> (try cases hact) <;> (try exact ⟨rfl, rfl⟩)
theorem xm_ins_inl {i : Instr} {a b k d pc : Nat} {L : List (Option Value)} {st : List Value} {S : xm_S} {A : (Option Value) ⊕ Nat ⊕ (Nat × List Value × List Value)} (hact : xm_ins xs LS kt i a b k d pc L st S = some (.inr A)) : False := by
  unfold xm_ins at hact
  split at hact <;> (try cases hact) <;> (split at hact) <;> (try cases hact) <;> (try (split at hact)) <;> (try cases hact) <;> (try (split at hact)) <;> (try cases hact)
theorem xm_big_len {i : Instr} {a b k d pc : Nat} {L : List (Option Value)} {st : List Value} {S S' : xm_S} {F' : xm_F} (hact : xm_big kt df i a b k d pc L st S = some (.inl (F', S'))) : S.1.length ≤ S'.1.length ∧ S.2.1 ≤ S'.2.1 := by
  unfold xm_big at hact
  split at hact <;> (try cases hact) <;> (try (split at hact)) <;> (try cases hact) <;> (try (split at hact)) <;> (try cases hact) <;> (try (split at hact)) <;> (try cases hact) <;> (try (split at hact)) <;> (try cases hact) <;> first
    | exact ⟨Nat.le_refl _, Nat.le_refl _⟩
    | exact ⟨by simp, by simp⟩
theorem xm_act_len {mi : Nat} {F F' : xm_F} {S S' : xm_S} (h : xm_act xs LS kt df P mi F S = some (.inl (F', S'))) : S.1.length ≤ S'.1.length ∧ S.2.1 ≤ S'.2.1 := by
  unfold xm_act at h
  split at h
  · split at h
    · obtain ⟨h1, h2⟩ := xm_ins_len h
      omega
    · exact xm_big_len h
  · cases h
theorem xm_run_len : ∀ (n d mi : Nat) (F : xm_F) (S S1 : xm_S) (r : Option Value ⊕ Nat), xm_run xs LS kt df P n d mi F S = some (r, S1) → S.1.length ≤ S1.1.length ∧ S.2.1 ≤ S1.2.1 := by
  intro n
  induction n with
  | zero => intro d mi F S S1 r h; simp [xm_run] at h
  | succ n ih =>
    intro d mi F S S1 r h
    unfold xm_run at h
    split at h
    · cases h
    · rename_i F' S' ha
      have h1 := xm_act_len ha
      have h2 := ih _ _ _ _ _ _ h
      omega
    · cases h
      exact ⟨Nat.le_refl _, Nat.le_refl _⟩
    · split at h
      · cases h
        exact ⟨by simp, by simp⟩
      · cases h
    · split at h
      · cases h
      · split at h
        · cases h
        · rename_i v S' hr
          have h1 := ih _ _ _ _ _ _ hr
          have h2 := ih _ _ _ _ _ _ h
          simp only at h1 h2
          omega
        · rename_i i S' hr
          have h1 := ih _ _ _ _ _ _ hr
          simp only at h1
          split at h
          · split at h
            · have h2 := ih _ _ _ _ _ _ h
              simp only at h2
              omega
            · split at h
              · cases h
                exact h1
              · cases h
          · cases h
theorem xm_at_mem {mi pc : Nat} {x : xm_I} (hM : P[mi]? = some M) (h : xm_at P mi pc = some x) : x ∈ M.2.2.2.2.2 ∧ x.1 = pc := by
  unfold xm_at at h
  rw [hM] at h
  exact ⟨List.mem_of_find?_eq_some h, by simpa using List.find?_some h⟩
theorem xm_big_ret {i : Instr} {a b k d pc : Nat} {L : List (Option Value)} {st : List Value} {S : xm_S} {v : Option Value} (hact : xm_big kt df i a b k d pc L st S = some (.inr (.inl v))) :
    (i = .ireturn ∧ ∃ x, st = [.int x] ∧ v = some (.int x) ∧ (d = 0 ∨ x = 0 ∨ x = 1)) ∨ (i = .return_ ∧ st = [] ∧ v = none) := by
  unfold xm_big at hact
  split at hact
  · split at hact
    · rename_i hd
      cases hact
      exact Or.inl ⟨rfl, _, rfl, rfl, Or.inl hd⟩
    · split at hact
      · rename_i hd
        cases hact
        exact Or.inl ⟨rfl, _, rfl, rfl, Or.inr hd⟩
      · cases hact
  · cases hact
    exact Or.inr ⟨rfl, rfl, rfl⟩
  all_goals (repeat' (first | cases hact | split at hact))
theorem xm_big_thr {i : Instr} {a b k d pc : Nat} {L : List (Option Value)} {st : List Value} {S : xm_S} {v : Nat} (hact : xm_big kt df i a b k d pc L st S = some (.inr (.inr (.inl v)))) :
    ∃ ix, i = .new ix ∧ d = 1 ∧ st.length ≤ 4 ∧ v = a := by
  unfold xm_big at hact
  split at hact
  · repeat' (first | cases hact | split at hact)
  · cases hact
  · split at hact
    · rename_i hd
      split at hact
      · rename_i hl
        cases hact
        exact ⟨_, rfl, hd, hl, rfl⟩
      · cases hact
    · split at hact <;> cases hact
  all_goals (repeat' (first | cases hact | split at hact))
theorem xm_big_call {i : Instr} {a b k d pc y : Nat} {L : List (Option Value)} {st as rest : List Value} {S : xm_S} (hact : xm_big kt df i a b k d pc L st S = some (.inr (.inr (.inr (y, as, rest))))) :
    y = a ∧ rest.length ≤ 4 ∧ ((∃ ix r, i = .invokespecial ix ∧ d = 0 ∧ st = .ref r :: rest ∧ as = [.ref r]) ∨ (∃ ix r bs ci fs, i = .invokevirtual ix ∧ as = .ref r :: bs ∧ st = bs.reverse ++ .ref r :: rest ∧ as.length = b ∧ as.all xm_cat = true ∧ S.1[r]? = some (.inr (ci, fs)) ∧ ci = k) ∨ (∃ ix, i = .invokestatic ix ∧ st = as.reverse ++ rest ∧ as.length = b ∧ as.all xm_cat = true)) := by
  unfold xm_big at hact
  split at hact
  · repeat' (first | cases hact | split at hact)
  · cases hact
  · repeat' (first | cases hact | split at hact)
  · repeat' (first | cases hact | split at hact)
  · repeat' (first | cases hact | split at hact)
  · repeat' (first | cases hact | split at hact)
  · split at hact
    · split at hact <;> cases hact
    · split at hact
      · rename_i hd
        cases hact
        exact ⟨rfl, hd.2, Or.inl ⟨_, _, rfl, hd.1, rfl, rfl⟩⟩
      · cases hact
  · split at hact
    · rename_i hl
      split at hact
      · rename_i r bs hrev
        split at hact
        · rename_i ci fs hr
          split at hact
          · rename_i hk
            cases hact
            have h1 : st.take b = bs.reverse ++ [.ref r] := by
              have := congrArg List.reverse hrev
              simpa using this
            refine ⟨rfl, hl.2.1, Or.inr (Or.inl ⟨_, r, bs, ci, fs, rfl, rfl, ?_, ?_, ?_, hr, hk⟩)⟩
            · have h2 := List.take_append_drop b st
              rw [h1] at h2
              rw [List.append_assoc] at h2
              exact h2.symm
            · rw [← hrev]
              simp only [List.length_reverse, List.length_take]
              omega
            · rw [← hrev]
              simpa using hl.2.2
          · cases hact
        · cases hact
      · cases hact
    · cases hact
  · split at hact
    · rename_i hl
      cases hact
      refine ⟨rfl, hl.2.1, Or.inr (Or.inr ⟨_, rfl, ?_, ?_, ?_⟩)⟩
      · simp
      · simp only [List.length_reverse, List.length_take]
        omega
      · simpa using hl.2.2
    · cases hact
  · cases hact
theorem xm_cat1 {as : List Value} (h : as.all xm_cat = true) : ∀ v ∈ as, v.category = 1 := by
  intro v hv
  have h1 := List.all_eq_true.mp h v hv
  cases v <;> first | rfl | (simp [xm_cat] at h1)
/-- a method's first frame -/
theorem xm_first {as : List Value} {nA : Nat} (hc1 : ∀ v ∈ as, v.category = 1) (hn : as.length ≤ nA) : entryFrame m (as.map (xm_tv B0 sb)).toArray nA = F0 m 0 (((as.map (xm_tv B0 sb)).map Slot.val ++ List.replicate (nA - (as.map (xm_tv B0 sb)).length) Slot.unset).toArray) [] ∧
    xm_lv B0 sb (((as.map (xm_tv B0 sb)).map Slot.val ++ List.replicate (nA - (as.map (xm_tv B0 sb)).length) Slot.unset).toArray) nA (as.map some ++ List.replicate (nA - as.length) none) := by
  have hc2 : ∀ v ∈ as.map (xm_tv B0 sb), v.category = 1 := by
    intro v hv
    obtain ⟨w, hw, rfl⟩ := List.mem_map.mp hv
    rw [xm_tv_cat]; exact hc1 w hw
  refine ⟨entry_eq m _ hc2 nA, by simp; omega, ⟨fun i v hv hv2 => ?_, fun i hi => ?_⟩, by simp; omega, fun i v hv => ?_⟩
  · exfalso
    rw [List.getElem?_toArray] at hv
    rcases List.mem_append.mp (List.mem_of_getElem? hv) with h | h
    · obtain ⟨w, hw, h2⟩ := List.mem_map.mp h
      cases h2
      have := hc2 _ hw
      omega
    · have := (List.mem_replicate.mp h).2
      cases this
  · exfalso
    rw [List.getElem?_toArray] at hi
    rcases List.mem_append.mp (List.mem_of_getElem? hi) with h | h
    · obtain ⟨w, hw, h2⟩ := List.mem_map.mp h
      cases h2
    · have := (List.mem_replicate.mp h).2
      cases this
  · by_cases hi : i < as.length
    · rw [List.getElem?_append_left (by simpa using hi), List.getElem?_map] at hv
      obtain ⟨w, hw, h2⟩ := Option.map_eq_some_iff.mp hv
      cases h2
      refine ⟨?_, hc1 v (List.mem_of_getElem? hw)⟩
      rw [List.getElem?_toArray, List.getElem?_append_left (by simpa using hi), List.getElem?_map, List.getElem?_map, hw]
      rfl
    · rw [List.getElem?_append_right (by simpa using Nat.not_lt.mp hi)] at hv
      have := (List.mem_replicate.mp (List.mem_of_getElem? hv)).2
      cases this
theorem xm_okM.full (h : xm_okM WS cl M = true) (hn : M.1.name ≠ "law") : xm_okF WS cl M = true := by
  unfold xm_okM at h
  rw [if_neg hn] at h
  exact h
theorem xm_code {s0 : State} {mi : Nat} (hWS : ∀ w, WS w = true → ∀ (a' : Array Value) (U : State), s0.WarmedH U.vm → w.before a' U = true) (hok : xm_okF WS cl M = true) {U : State} (hU : s0.WarmedH U.vm) (a' : Array Value) :
    (Cond.codeWith M.1 M.2.1 M.2.2.1 M.2.2.2.1 (xm_h4 M)).before a' U = true ∧ (Cond.initialized M.1.cls).before a' U = true := by
  simp only [xm_okF, Bool.and_eq_true, decide_eq_true_eq] at hok
  obtain ⟨⟨⟨-, h1⟩, h2⟩, -⟩ := hok
  refine ⟨?_, hWS _ h2 _ _ hU⟩
  split at h1
  · rename_i hnil
    have h3 := hWS _ h1 a' U hU
    unfold Cond.before Cond.holds at h3 ⊢
    rw [Cond.code_iff_codeWith_nil] at h3
    have h4 : xm_h4 M = [] := by unfold xm_h4; rw [hnil]; rfl
    rw [h4]
    exact h3
  · exact hWS _ h1 a' U hU
end XM8b
