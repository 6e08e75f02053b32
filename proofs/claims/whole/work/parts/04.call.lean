/-! 04.call: calls, returns, throws, catches, new cells. -/
section XM4
variable {p : Program} {l : Launch} {e : Env} {R : Room} {s : State} {m : MethodId} {args : Array Value} {below : List Frame} {meth : Method} {c : Code} {H : Heap} {locs : List Loc} {cells slots : Nat} {Q : State → Prop}
variable {WS : Cond → Bool} {cl : List vw_C} {kt : List FieldType} {dA : Nat → ClassId} {D : va_G} {B0 sb LS : Nat} {xs : Nat → Int32} {M : xm_M} {h0 : List va_E} {ks0 nL : Nat} {ls : Array Slot}
theorem xm_mono {Q' : State → Prop} {g : JFrame} (h : ∀ t, Q t → Q' t) (k : W p l e R s m args below meth c H locs cells slots Q g) : W p l e R s m args below meth c H locs cells slots Q' g := fun T hT X => by
  obtain ⟨t, a, b⟩ := k T hT X
  exact ⟨t, a, h t b⟩
theorem xm_up {g : JFrame} (k : H.size ≤ s.heap.size + cells → W p l e R s m args below meth c H locs cells slots Q g) : W p l e R s m args below meth c H locs cells slots Q g := fun T hT X => by
  have h1 := X.heapSize
  rw [hT] at h1
  exact k h1 T hT X
/-- the earlier state is still there -/
def xm_le (s0 s : State) : Prop := s0.WarmedH s.vm ∧ s0.heap.size ≤ s.heap.size ∧ ∀ q : Nat, q < s0.heap.size → s.heap[q]? = s0.heap[q]?
def xm_o (B0 sb : Nat) : Option Value ⊕ Nat → Outcome
  | .inl v => .returned (v.map (xm_tv B0 sb))
  | .inr i => .threw (B0 + i)
/-- how a method ends -/
def xm_E0 (D : va_G) (cl : List vw_C) (dA : Nat → ClassId) (B0 sb : Nat) (s : State) (h0 : List va_E) (ks0 : Nat) (r : Option Value ⊕ Nat) (S1 : xm_S) (o : Outcome) (t : State) : Prop :=
  o = xm_o B0 sb r ∧ s.WarmedH t.vm ∧ va_P D cl (xm_tw dA B0 sb S1.1) t.heap ∧ t.heap.size = B0 + S1.1.length ∧ (∀ q : Nat, q < B0 → t.heap[q]? = s.heap[q]?) ∧
  (∀ i, r = .inr i → ∃ (ci : Nat) (C : String) (T : u_T), S1.1[i]? = some (.inr (ci, [])) ∧ cl[ci]? = some (C, T, 0)) ∧
  ∃ L : List Loc, (∀ q ∈ L, B0 ≤ q.base) ∧ (S1.2.2 = true → L = [] ∧ ∀ v, r = .inl v → S1.1 = h0) ∧ (∀ i, r = .inr i → L = []) ∧ s.sameButNew ({ t with vm := s.vm } : State) L (S1.1.length - h0.length) (S1.2.1 - ks0)
def xm_End (D : va_G) (cl : List vw_C) (dA : Nat → ClassId) (B0 sb : Nat) (s : State) (below : List Frame) (h0 : List va_E) (ks0 : Nat) (r : Option Value ⊕ Nat) (S1 : xm_S) (t : State) : Prop :=
  ∃ o, t.status = .running ∧ Ended t below o ∧ xm_E0 D cl dA B0 sb s h0 ks0 r S1 o t
/-- a callee that has its contract: it comes to its end -/
theorem xm_callee {T : State} (X : Stand p l e R s m args below meth c T locs cells slots) {g : JFrame} (hg : g.method = m) (hsize : g.locals.size = c.maxLocals) {ig : Instr} {len : Nat} (hdg : decode c.code g.pc = .ok (ig, len)) (hW : 2 * g.monitorRoom + (g.stack.map fun v => v.category).sum ≤ 8)
    {y : MethodName} {bytes : ByteArray} {maxL : Nat} {ret : Option FieldType} {hs : List (Nat × Nat × Nat × Nat)} {rm : Room} {P' : Array Value → State → Prop} {Q' : Array Value → State → Outcome → State → Prop} (hM : MetFree l y (headSpec [.codeWith y bytes maxL ret hs] rm) P' (fun _ _ _ _ _ => True) Q')
    {mk : MethodId} {a : Array Value} (hcode : (Cond.codeWith y bytes maxL ret hs).before a T = true) (hn : T.methodNamed? y = some mk) (hini : (Cond.initialized y.cls).before a T = true) (hfr : rm.frames + 1 ≤ R.frames) (hlo : 8 + (maxL + 11) + rm.locals ≤ R.locals) (hcells : cells + rm.cells ≤ R.cells) (hslots : slots + rm.slots ≤ R.slots) (hP : P' a (T.calling g mk a)) :
    ∃ (o : Outcome) (t : State), Steps p.tables e below (doInvoke e (T.setTop g) [] mk a).1 t ∧ Ended t (.java g :: below) o ∧ Q' a (T.calling g mk a) o t := by
  obtain ⟨m', methY, cY, hn', hmY, hcY, -, hlY, -, -, -, -⟩ := Cond.codeWith_spec hcode
  cases hn.symm.trans hn'
  obtain ⟨kY, hkY, -⟩ := className_of_methodNamed hn
  have hinitY : kY.init = .initialized := Cond.initialized_spec (findClass_of_methodNamed hn) hkY hini
  have h : At T g.method c below := by rw [hg]; exact X.here
  have happ : (headSpec [.codeWith y bytes maxL ret hs] rm).appliesLoose y e.platform (T.calling g mk a) = true :=
    Spec.appliesLoose_calling (g := g) h hdg hn hkY hinitY (X.room_calling (g := g) (R' := rm) hsize hmY hcY hfr (by rw [hlY]; omega) hcells hslots)
      (atoms_intro (fun w hw => by rw [List.mem_singleton.mp hw]; exact hcode))
  have hf : (T.setTop g).frames = (.java g :: []) ++ below := by rw [State.frames_setTop' g h.top, X.tail]; rfl
  obtain ⟨o, t, hst, -, hend, hq⟩ := Free.Steps.callFree hM p X.admits X.cas X.clock (acts := []) hf happ hP trivial
  rw [State.frames_setTop' g h.top, X.tail] at hend
  exact ⟨o, t, hst, hend, hq⟩
end XM4
section XM5
variable {p : Program} {l : Launch} {e : Env} {R : Room} {s : State} {m : MethodId} {args : Array Value} {below : List Frame} {meth : Method} {c : Code} {H : Heap} {locs : List Loc} {cells slots : Nat} {Q : State → Prop}
variable {WS : Cond → Bool} {cl : List vw_C} {kt : List FieldType} {df : List (List Value)} {dA : Nat → ClassId} {D : va_G} {B0 sb LS : Nat} {xs : Nat → Int32} {M : xm_M} {P : List xm_M} {h0 : List va_E} {ks0 nL : Nat} {ls : Array Slot}
theorem xm_fresh {h : List va_E} {q : Nat} {e0 : va_E} {H1 : Heap} (hP : va_P D cl (xm_tw dA B0 sb h ++ [(q, e0)]) H1) (hD : va_D (fun q => B0 ≤ q) (xm_tw dA B0 sb h ++ [(q, e0)])) (hz : H1.size ≤ B0 + h.length + 1) : q = B0 + h.length := by
  have hlen : (xm_tw dA B0 sb h).length = h.length := by simp [xm_tw]
  have hq : (xm_tw dA B0 sb h ++ [(q, e0)])[h.length]? = some (q, e0) := by
    rw [List.getElem?_append_right (by omega)]
    simp [hlen]
  have h1 : q < H1.size := (hP _ _ hq).lt
  have h2 : B0 ≤ q := hD.2 _ _ hq
  by_cases hlt : q - B0 < h.length
  · exfalso
    have h3 : (xm_tw dA B0 sb h ++ [(q, e0)])[q - B0]? = some (B0 + (q - B0), xm_te dA B0 sb h[q - B0]) := by
      rw [List.getElem?_append_left (by omega)]
      exact xm_tw_get (List.getElem?_eq_getElem hlt)
    have h4 := hD.1 _ _ _ _ h3 hq (by show B0 + (q - B0) = q; omega)
    omega
  · omega
theorem xm_V.nw {L : List (Option Value)} {S : xm_S} {H1 : Heap} {q n : Nat} {c1 : va_E} (h : xm_V D cl dA B0 sb s h0 ks0 nL L S H locs cells slots ls) (hsz : s.heap.size = B0 + h0.length)
    (hP : va_P D cl (xm_tw dA B0 sb S.1 ++ [(q, xm_te dA B0 sb c1)]) H1) (hD : va_D (fun q => B0 ≤ q) (xm_tw dA B0 sb S.1 ++ [(q, xm_te dA B0 sb c1)])) (hS : va_S (fun q => B0 ≤ q) s.heap H1 locs) (hz : H1.size ≤ s.heap.size + (cells + 1)) :
    q = B0 + S.1.length ∧ xm_V D cl dA B0 sb s h0 ks0 nL L (S.1 ++ [c1], S.2.1 + n, false) H1 locs (cells + 1) (slots + n) ls := by
  obtain ⟨h1, h2, h3, h4, h5, h6⟩ := h
  have hq := xm_fresh hP hD (by omega)
  subst hq
  rw [← xm_tw_app] at hP
  exact ⟨rfl, h1, hP, hS, by simp only [List.length_append, List.length_singleton]; omega, by show _ = _ + _; omega, fun q => by cases q⟩
theorem xm_sum (st : List Value) : ((st.map (xm_tv B0 sb)).map fun v => v.category).sum ≤ 2 * st.length := by
  induction st with
  | nil => simp
  | cons v t ih =>
    simp only [List.map_cons, List.sum_cons, List.length_cons]
    rcases lv_cat (xm_tv B0 sb v) with h | h <;> omega
theorem xm_dv {B0 sb : Nat} (t : FieldType) : xm_tv B0 sb (defaultValue t) = defaultValue t := by cases t <;> rfl
/-- a making, a store of a reference, the constructor of Object -/
def xm_okN (WS : Cond → Bool) (cl : List vw_C) (kt : List FieldType) (df : List (List Value)) (M : xm_M) (x : xm_I) : Bool :=
  match x with
  | (_, .new ix, a, _, _, d) => if d = 1 then true else match cl[a]?, df[a]? with
    | some (C, T, N), some fs => WS (Cond.classLink M.1.cls ix C) && WS (Cond.instantiable C N) && WS (Cond.initialized C) && (fs.length == N) && (List.range N).all (fun j => decide ((parseFieldDescriptor (T j).2.2.1).map defaultValue = fs[j]?))
    | _, _ => false
  | (_, .newarray t, a, _, _, _) => decide (kt[a]? = some (Op.newarray.typeOf t)) && WS (Cond.arrayClass (Op.newarray.typeOf t))
  | (_, .anewarray ix, a, _, _, _) => match kt[a]? with
    | some (.object C) => WS (Cond.classLink M.1.cls ix C) && WS (Cond.arrayOver (.object C))
    | _ => false
  | (_, .aastore, a, b, _, _) => match kt[a]?, cl[b]? with
    | some (.object C), some (C', _, _) => C == C'
    | _, _ => false
  | (_, .invokespecial ix, _, _, _, d) => if d = 1 then WS (Cond.methodLink M.1.cls ix Lib.objectInit) && WS (Cond.instanceMethod Lib.objectInit) && WS (Cond.code Lib.objectInit ⟨#[0xb1]⟩ 1 none) else true
  | _ => true
set_option maxHeartbeats 4000000 in
set_option maxRecDepth 100000 in
theorem xm_bg (hx : p.tables.exec = Jvm.exec) (hb : c.code = M.2.1) (hml : c.maxLocals = nL) (hown : s.vm.findClass M.1.cls = some m.cls) (hts : ∀ w, WS w = true → w.before args s = true) (hK : va_K D cl (xm_tys kt dA) s) (hsz : s.heap.size = B0 + h0.length) (hcl : xm_cls WS cl) (hRf : 1 ≤ R.frames) (hRl : 58 ≤ R.locals)
    {i : Instr} {a b k d pc : Nat} {L : List (Option Value)} {st : List Value} {S S' : xm_S} {F' : xm_F} (hok : xm_ok WS cl M (pc, i, a, b, k, d) = true) (hokN : xm_okN WS cl kt df M (pc, i, a, b, k, d) = true) (hact : xm_big kt df i a b k d pc L st S = some (.inl (F', S')))
    (hc1 : S'.1.length ≤ R.cells + h0.length) (hc2 : S'.2.1 ≤ R.slots + ks0)
    (hV : xm_V D cl dA B0 sb s h0 ks0 nL L S H locs cells slots ls) (kk : ∀ (H' : Heap) (locs' : List Loc) (cells' slots' : Nat) (ls' : Array Slot), xm_V D cl dA B0 sb s h0 ks0 nL F'.2.1 S' H' locs' cells' slots' ls' → W p l e R s m args below meth c H' locs' cells' slots' Q (F0 m F'.1 ls' (F'.2.2.map (xm_tv B0 sb)))) :
    W p l e R s m args below meth c H locs cells slots Q (F0 m pc ls (st.map (xm_tv B0 sb))) := by
  simp only [xm_ok, Bool.and_eq_true, decide_eq_true_eq] at hok
  have hdg := hok.1
  have hA : ∀ q : Nat, s.heap.size ≤ q → B0 ≤ q := fun q hq => by omega
  have e4 := hV.2.2.2.1
  have e5 := hV.2.2.2.2.1
  unfold xm_big at hact
  split at hact
  · split at hact
    · cases hact
    · split at hact <;> cases hact
  · cases hact
  · split at hact
    · split at hact <;> cases hact
    · rename_i hd1
      split at hact
      · rename_i fs hfs
        cases hact
        simp only [xm_okN, if_neg hd1] at hokN
        rw [hfs] at hokN
        split at hokN
        · rename_i C T N fs' hc hf'
          cases hf'
          simp only [Bool.and_eq_true, decide_eq_true_eq, beq_iff_eq, List.all_eq_true, List.mem_range] at hokN
          obtain ⟨⟨⟨⟨o1, o2⟩, o3⟩, o4⟩, o5⟩ := hokN
          obtain ⟨hin, ⟨ty0, hty⟩, -⟩ := hcl _ C T N hc
          simp only [List.length_append, List.length_singleton] at hc1 hc2
          subst o4
          refine va_new (fs := fs.map (xm_tv B0 sb)) hx hb (fun w hw => hts w (hin w hw)) (fun _ h => h) ty0 hty hown (hts _ o1) (hts _ o2) (hts _ o3) hK hV.2.1 xm_D hV.2.2.1 hA hc (fun j hj => ?_) (by omega) (by omega) hdg (fun q H1 hP1 hD1 hS1 => xm_up fun hz => ?_)
          · have o6 := o5 j hj
            rw [hty j hj] at o6
            simp only [Option.map_some] at o6
            rw [vp_V, List.getD_eq_getElem?_getD, List.getElem?_map, ← o6]
            simp [xm_dv]
          · obtain ⟨rfl, hV'⟩ := hV.nw (n := fs.length) (c1 := .inr (a, fs)) hsz hP1 hD1 hS1 hz
            exact kk _ _ _ _ _ hV'
        · cases hokN
      · cases hact
  · split at hact
    · rename_i x hbk
      split at hact
      · rename_i hn
        cases hact
        simp only [xm_okN, Bool.and_eq_true, decide_eq_true_eq] at hokN
        obtain ⟨o1, o2⟩ := hokN
        simp only [List.length_append, List.length_singleton] at hc1 hc2
        rw [o1] at hbk
        rename_i _ t n st' _
        have hkey : ∀ cA : ClassId, vp_cell cA (n.toNatClampNeg, x) = arrV cA n.toNatClampNeg (fun _ => defaultValue (Op.newarray.typeOf t)) ∧ (xm_te dA B0 sb (.inl (a, n.toNatClampNeg, x)) = .inl (dA a, n.toNatClampNeg, x)) := by
          intro cA
          cases t <;> simp only [Op.newarray.typeOf, xm_blank, Option.some.injEq, reduceCtorEq] at hbk <;> subst hbk <;> exact ⟨rfl, rfl⟩
        have hb8 : componentBytes (Op.newarray.typeOf t) ≤ 8 := by cases t <;> decide
        refine va_newa hx hb (hts _ o2) rfl hK hV.2.1 xm_D hV.2.2.1 hA (fun cA => (hkey cA).1) hn.1 rfl (by have := Nat.mul_le_mul hn.2 hb8; omega) (by omega) (by omega) hdg (fun q cA H1 hK1 hP1 hD1 hS1 => xm_up fun hz => ?_)
        have hcA : cA = dA a := by
          have g1 := (hK1.2 (xm_tys kt dA).length (cA, Op.newarray.typeOf t) (by rw [List.getElem?_append_right (Nat.le_refl _)]; simp)).2
          have g2 := (hK.2 a _ (xm_tys_get o1)).2
          cases t <;> exact Option.some.inj (g1.symm.trans g2)
        subst hcA
        rw [← (hkey (dA a)).2] at hP1 hD1
        obtain ⟨rfl, hV'⟩ := hV.nw (n := n.toNatClampNeg) hsz hP1 hD1 hS1 hz
        exact kk _ _ _ _ _ hV'
      · cases hact
    · cases hact
  · split at hact
    · rename_i hn
      cases hact
      simp only [xm_okN] at hokN
      split at hokN
      · rename_i C o1
        simp only [Bool.and_eq_true, decide_eq_true_eq] at hokN
        obtain ⟨o2, o3⟩ := hokN
        simp only [List.length_append, List.length_singleton] at hc1 hc2
        refine va_newq hx hb hown (hts _ o2) (va_AO.of (hts _ o3)) hK hV.2.1 xm_D hV.2.2.1 hA hn.2.1 rfl (by have := hn.2.2; omega) (by omega) (by omega) hdg (fun q cA H1 hK1 hP1 hD1 hS1 => xm_up fun hz => ?_)
        have hcA : cA = dA a := by
          have g1 := (hK1.2 (xm_tys kt dA).length (cA, .object C) (by rw [List.getElem?_append_right (Nat.le_refl _)]; simp)).2
          have g2 := (hK.2 a _ (xm_tys_get o1)).2
          obtain ⟨_, _, _, _, _, g1⟩ := g1
          obtain ⟨_, _, _, _, _, g2⟩ := g2
          exact Option.some.inj (g1.symm.trans g2)
        subst hcA
        obtain ⟨rfl, hV'⟩ := hV.nw (c1 := .inl (a, _, .inr (.inr (.inr (.inr (fun _ => none)))))) hsz hP1 hD1 hS1 hz
        exact kk _ _ _ _ _ hV'
      · cases hokN
    · cases hact
  · split at hact
    · rename_i q n f ci vs hr hv
      split at hact
      · rename_i hin
        obtain ⟨hq, hci, hin⟩ := hin
        subst hq; subst hci
        cases hact
        simp only [xm_okN] at hokN
        split at hokN
        · rename_i C C' T N o1 o2
          have hCC : C = C' := by simpa using hokN
          subst hCC
          refine va_astq (r := (C, T, N)) hx hb hK hV.2.1 xm_D hV.2.2.1 _ _ _ _ (xm_tw_get hr) (xm_tys_get o1) (xm_tw_get hv) o2 hin hdg (fun H1 locs1 hP1 _ hS1 => kk _ _ _ _ _ (hV.wr hr ?_ hS1))
          have hf : ∀ (k v : Nat), (fun j => (va_up f k (some v) j).map (fun q => B0 + q)) = va_up (fun j => (f j).map (fun q => B0 + q)) k (some (B0 + v)) := by
            intro k v
            funext j
            simp only [va_up]
            split <;> rfl
          rw [← hf] at hP1
          exact hP1
        · cases hokN
      · cases hact
    · cases hact
  · split at hact
    · rename_i hd1
      split at hact
      · rename_i hst
        cases hact
        simp only [xm_okN, if_pos hd1, Bool.and_eq_true, decide_eq_true_eq] at hokN
        obtain ⟨⟨o1, o2⟩, o3⟩ := hokN
        refine W.objInit hx hb hown (hts _ o1) (hts _ o2) (hts _ o3) rfl (by rw [hml]; exact hV.1.1) rfl hdg (by omega) ?_ (kk _ _ _ _ _ hV)
        show 2 * 0 + _ + 12 ≤ _
        refine Nat.le_trans (Nat.add_le_add_right (Nat.add_le_add_left (xm_sum _) (2 * 0)) 12) ?_
        omega
      · cases hact
    · split at hact <;> cases hact
  · split at hact
    · split at hact
      · split at hact
        · split at hact <;> cases hact
        · cases hact
      · cases hact
    · cases hact
  · split at hact <;> cases hact
  · cases hact
end XM5
