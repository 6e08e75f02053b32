/-! 03.sim: the real machine does what the small one does. -/
def xm_tv (B0 sb : Nat) : Value → Value
  | .ref k => .ref (B0 + k)
  | .retAddr _ => .ref sb
  | .int x => .int x
  | .long x => .long x
  | .float x => .float x
  | .double x => .double x
  | .null => .null
def xm_te (dA : Nat → ClassId) (B0 sb : Nat) : va_E → va_E
  | .inr (ci, fs) => .inr (ci, fs.map (xm_tv B0 sb))
  | .inl (k, n, .inl f) => .inl (dA k, n, .inl f)
  | .inl (k, n, .inr (.inl f)) => .inl (dA k, n, .inr (.inl f))
  | .inl (k, n, .inr (.inr (.inl f))) => .inl (dA k, n, .inr (.inr (.inl f)))
  | .inl (k, n, .inr (.inr (.inr (.inl f)))) => .inl (dA k, n, .inr (.inr (.inr (.inl f))))
  | .inl (k, n, .inr (.inr (.inr (.inr f)))) => .inl (dA k, n, .inr (.inr (.inr (.inr (fun j => (f j).map (fun q => B0 + q))))))
def xm_tw (dA : Nat → ClassId) (B0 sb : Nat) (h : List va_E) : va_W := h.mapIdx (fun k c => (B0 + k, xm_te dA B0 sb c))
def xm_tys (kt : List FieldType) (dA : Nat → ClassId) : List (ClassId × FieldType) := kt.mapIdx (fun k t => (dA k, t))
theorem xm_tw_get {dA : Nat → ClassId} {B0 sb : Nat} {h : List va_E} {k : Nat} {c : va_E} (hk : h[k]? = some c) : (xm_tw dA B0 sb h)[k]? = some (B0 + k, xm_te dA B0 sb c) := by
  simp [xm_tw, List.getElem?_mapIdx, hk]
theorem xm_tys_get {dA : Nat → ClassId} {kt : List FieldType} {k : Nat} {t : FieldType} (hk : kt[k]? = some t) : (xm_tys kt dA)[k]? = some (dA k, t) := by
  simp [xm_tys, List.getElem?_mapIdx, hk]
theorem xm_tw_set {dA : Nat → ClassId} {B0 sb : Nat} {h : List va_E} {k : Nat} {c0 c : va_E} (hk : h[k]? = some c0) : (xm_tw dA B0 sb h).set k (B0 + k, xm_te dA B0 sb c) = xm_tw dA B0 sb (h.set k c) := by
  have hl := (List.getElem?_eq_some_iff.mp hk).1
  apply List.ext_getElem?
  intro i
  by_cases hi : i = k
  · subst hi
    rw [List.getElem?_set_self (by simpa [xm_tw] using hl), xm_tw_get (List.getElem?_set_self hl)]
  · rw [List.getElem?_set_ne (Ne.symm hi)]
    simp [xm_tw, List.getElem?_mapIdx, List.getElem?_set_ne (Ne.symm hi)]
theorem xm_tw_app {dA : Nat → ClassId} {B0 sb : Nat} {h : List va_E} {c : va_E} : xm_tw dA B0 sb (h ++ [c]) = xm_tw dA B0 sb h ++ [(B0 + h.length, xm_te dA B0 sb c)] := by
  simp [xm_tw, List.mapIdx_append]
theorem xm_D {dA : Nat → ClassId} {B0 sb : Nat} {h : List va_E} : va_D (fun q => B0 ≤ q) (xm_tw dA B0 sb h) := by
  have key : ∀ (k : Nat) (q : Nat × va_E), (xm_tw dA B0 sb h)[k]? = some q → q.1 = B0 + k := by
    intro k q hq
    simp only [xm_tw, List.getElem?_mapIdx, Option.map_eq_some_iff] at hq
    obtain ⟨c, -, rfl⟩ := hq
    rfl
  exact ⟨fun i j p q hi hj h => by have h1 := key i p hi; have h2 := key j q hj; omega, fun k q hk => by have h1 := key k q hk; show B0 ≤ q.1; omega⟩
/-- the locals -/
def xm_lv (B0 sb : Nat) (ls : Array Slot) (nL : Nat) (L : List (Option Value)) : Prop := ls.size = nL ∧ lv_wf ls ∧ L.length = nL ∧ ∀ (i : Nat) (v : Value), L[i]? = some (some v) → ls[i]? = some (.val (xm_tv B0 sb v)) ∧ v.category = 1
def xm_al (B0 sb : Nat) (L : List (Option Value)) : List (Nat × Value) := (List.range L.length).filterMap (fun i => (L[i]?).join.map (fun v => (i, xm_tv B0 sb v)))
theorem xm_tv_cat {B0 sb : Nat} {v : Value} : (xm_tv B0 sb v).category = v.category := by cases v <;> rfl
theorem xm_al_mem {B0 sb : Nat} {L : List (Option Value)} {q : Nat × Value} : q ∈ xm_al B0 sb L ↔ ∃ v, L[q.1]? = some (some v) ∧ q.2 = xm_tv B0 sb v := by
  obtain ⟨i, w⟩ := q
  simp only [xm_al, List.mem_filterMap, List.mem_range, Option.map_eq_some_iff, Prod.mk.injEq, Option.join_eq_some_iff]
  constructor
  · rintro ⟨j, hj, v, hv, rfl, rfl⟩
    exact ⟨v, hv, rfl⟩
  · rintro ⟨v, hv, rfl⟩
    exact ⟨i, (List.getElem?_eq_some_iff.mp hv).1, v, hv, rfl, rfl⟩
theorem xm_lv_has {B0 sb : Nat} {ls : Array Slot} {nL : Nat} {L : List (Option Value)} (h : xm_lv B0 sb ls nL L) : lv_has ls nL (xm_al B0 sb L) := by
  refine ⟨h.1, h.2.1, fun q hq => ?_⟩
  obtain ⟨v, hv, hq2⟩ := xm_al_mem.mp hq
  rw [hq2]
  exact (h.2.2.2 q.1 v hv).1
theorem xm_lv_set {B0 sb : Nat} {ls ls' : Array Slot} {nL : Nat} {L : List (Option Value)} {i : Nat} {v : Value} (h : xm_lv B0 sb ls nL L) (hi : i < L.length) (hv : v.category = 1)
    (h' : lv_has ls' nL ((i, xm_tv B0 sb v) :: (xm_al B0 sb L).filter (fun q => !(q.1 == i) && !(q.1 + 1 == i && q.2.category == 2)))) : xm_lv B0 sb ls' nL (L.set i (some v)) := by
  refine ⟨h'.1, h'.2.1, by rw [List.length_set]; exact h.2.2.1, fun j w hw => ?_⟩
  by_cases hj : j = i
  · subst hj
    rw [List.getElem?_set_self hi] at hw
    cases hw
    exact ⟨h'.2.2 (j, xm_tv B0 sb v) List.mem_cons_self, hv⟩
  · rw [List.getElem?_set_ne (Ne.symm hj)] at hw
    have hc := (h.2.2.2 j w hw).2
    refine ⟨h'.2.2 (j, xm_tv B0 sb w) (List.mem_cons_of_mem _ (List.mem_filter.mpr ⟨xm_al_mem.mpr ⟨w, hw, rfl⟩, ?_⟩)), hc⟩
    have hc2 : (xm_tv B0 sb w).category = 1 := by rw [xm_tv_cat]; exact hc
    simp [hj, hc2]
theorem xm_rf {B0 sb : Nat} (r : Option Nat) : xm_tv B0 sb (va_rf r) = va_rf (r.map (fun q => B0 + q)) := by cases r <;> rfl
theorem xm_cat_ok {B0 sb : Nat} {v : Value} (h : xm_cat v = true) : (xm_tv B0 sb v).category = 1 := by cases v <;> first | rfl | (simp [xm_cat] at h)
theorem xm_fit_ok {B0 sb d : Nat} {v : Value} {ty : Option FieldType} (hd : xm_tyd d ty = true) (h : xm_fit d v = true) : ∃ t, ty = some t ∧ narrow t (xm_tv B0 sb v) = xm_tv B0 sb v ∧ fits t (xm_tv B0 sb v) = true := by
  match ty, hd with
  | some .int, hd =>
    have e : d = 0 := by simpa [xm_tyd] using hd
    subst e
    cases v <;> first | exact ⟨_, rfl, rfl, rfl⟩ | (simp [xm_fit] at h)
  | some .boolean, hd =>
    have e : d = 1 := by simpa [xm_tyd] using hd
    subst e
    cases v with
    | int x =>
      have h2 : x = 0 ∨ x = 1 := by simpa [xm_fit] using h
      rcases h2 with rfl | rfl
      · exact ⟨_, rfl, (by show narrow .boolean (.int 0) = .int 0; decide), (by show fits .boolean (.int 0) = true; decide)⟩
      · exact ⟨_, rfl, (by show narrow .boolean (.int 1) = .int 1; decide), (by show fits .boolean (.int 1) = true; decide)⟩
    | _ => simp [xm_fit] at h
  | some (.object _), hd =>
    have e : d = 2 := by simpa [xm_tyd] using hd
    subst e
    cases v <;> first | exact ⟨_, rfl, rfl, rfl⟩ | (simp [xm_fit] at h)
  | some (.array _), hd =>
    have e : d = 2 := by simpa [xm_tyd] using hd
    subst e
    cases v <;> first | exact ⟨_, rfl, rfl, rfl⟩ | (simp [xm_fit] at h)
/-- what the tables say of the classes -/
def xm_cls (WS : Cond → Bool) (cl : List vw_C) : Prop := ∀ (ci : Nat) (C : String) (T : u_T) (N : Nat), cl[ci]? = some (C, T, N) → (∀ w ∈ u_ws C T N, WS w = true) ∧ (∃ ty0 : Nat → FieldType, ∀ k, k < N → parseFieldDescriptor (T k).2.2.1 = some (ty0 k)) ∧ ∀ a, a < N → ∀ b, b < N → a ≠ b → (T a).2.1 ≠ (T b).2.1
/-- the point of a frame -/
def xm_V (D : va_G) (cl : List vw_C) (dA : Nat → ClassId) (B0 sb : Nat) (s : State) (h0 : List va_E) (ks0 nL : Nat) (L : List (Option Value)) (S : xm_S) (H : Heap) (locs : List Loc) (cells slots : Nat) (ls : Array Slot) : Prop :=
  xm_lv B0 sb ls nL L ∧ va_P D cl (xm_tw dA B0 sb S.1) H ∧ va_S (fun q => B0 ≤ q) s.heap H locs ∧ h0.length + cells = S.1.length ∧ slots + ks0 = S.2.1 ∧ (S.2.2 = true → locs = [] ∧ S.1 = h0)
section XM3
variable {p : Program} {l : Launch} {e : Env} {R : Room} {s : State} {m : MethodId} {args : Array Value} {below : List Frame} {meth : Method} {c : Code} {H : Heap} {locs : List Loc} {cells slots : Nat} {Q : State → Prop}
variable {WS : Cond → Bool} {cl : List vw_C} {kt : List FieldType} {dA : Nat → ClassId} {D : va_G} {B0 sb LS : Nat} {xs : Nat → Int32} {M : xm_M} {h0 : List va_E} {ks0 nL : Nat} {ls : Array Slot}
theorem xm_V.lv {L L' : List (Option Value)} {S : xm_S} {ls' : Array Slot} (h : xm_V D cl dA B0 sb s h0 ks0 nL L S H locs cells slots ls) (h' : xm_lv B0 sb ls' nL L') : xm_V D cl dA B0 sb s h0 ks0 nL L' S H locs cells slots ls' := ⟨h', h.2⟩
theorem xm_V.wr {L : List (Option Value)} {S : xm_S} {H1 : Heap} {locs1 : List Loc} {k : Nat} {c0 c1 : va_E} (h : xm_V D cl dA B0 sb s h0 ks0 nL L S H locs cells slots ls) (hk : S.1[k]? = some c0)
    (hP : va_P D cl ((xm_tw dA B0 sb S.1).set k (B0 + k, xm_te dA B0 sb c1)) H1) (hS : va_S (fun q => B0 ≤ q) s.heap H1 locs1) : xm_V D cl dA B0 sb s h0 ks0 nL L (S.1.set k c1, S.2.1, false) H1 locs1 cells slots ls := by
  obtain ⟨h1, h2, h3, h4, h5, h6⟩ := h
  rw [xm_tw_set hk] at hP
  exact ⟨h1, hP, hS, by simpa using h4, h5, fun q => by cases q⟩
theorem xm_size {L : List (Option Value)} {S : xm_S} {g : JFrame} (hsz : s.heap.size = B0 + h0.length) (h : xm_V D cl dA B0 sb s h0 ks0 nL L S H locs cells slots ls)
    (k : H.size = B0 + S.1.length → W p l e R s m args below meth c H locs cells slots Q g) : W p l e R s m args below meth c H locs cells slots Q g := by
  intro T hT X
  have h1 := X.heapSize
  obtain ⟨-, hP, hS, h4, -, -⟩ := h
  refine k ?_ T hT X
  rw [hT] at h1
  have h2 := hS.1
  by_cases hc : cells = 0
  · omega
  · have hl : S.1.length - 1 < S.1.length := by omega
    have h3 := (hP (S.1.length - 1) _ (xm_tw_get (List.getElem?_eq_getElem hl))).lt
    have h5 : B0 + (S.1.length - 1) < H.size := h3
    omega
set_option maxHeartbeats 4000000 in
set_option maxRecDepth 100000 in
theorem xm_sm (hx : p.tables.exec = Jvm.exec) (hb : c.code = M.2.1) (hown : s.vm.findClass M.1.cls = some m.cls) (hmn : M.1.name = "<init>" → meth.name = "<init>") (hts : ∀ w, WS w = true → w.before args s = true) (hK : va_K D cl (xm_tys kt dA) s) (hX : va_X sb LS xs s s.heap) (hsb : sb < B0) (hB0 : B0 ≤ s.heap.size) (hcl : xm_cls WS cl)
    {i : Instr} {a b k d pc : Nat} {L : List (Option Value)} {st : List Value} {S S' : xm_S} {F' : xm_F} (hok : xm_ok WS cl M (pc, i, a, b, k, d) = true) (hact : xm_ins xs LS kt i a b k d pc L st S = some (.inl (F', S')))
    (hV : xm_V D cl dA B0 sb s h0 ks0 nL L S H locs cells slots ls) (kk : ∀ (H' : Heap) (locs' : List Loc) (ls' : Array Slot), xm_V D cl dA B0 sb s h0 ks0 nL F'.2.1 S' H' locs' cells slots ls' → W p l e R s m args below meth c H' locs' cells slots Q (F0 m F'.1 ls' (F'.2.2.map (xm_tv B0 sb)))) :
    W p l e R s m args below meth c H locs cells slots Q (F0 m pc ls (st.map (xm_tv B0 sb))) := by
  simp only [xm_ok, Bool.and_eq_true, decide_eq_true_eq] at hok
  have hdg := hok.1
  unfold xm_ins at hact
  split at hact
  · cases hact
    exact lv_iconst hx hb hdg rfl (kk _ _ _ hV)
  · cases hact
    exact lv_bipush hx hb hdg rfl (kk _ _ _ hV)
  · cases hact
    exact lv_sipush hx hb hdg rfl (kk _ _ _ hV)
  · cases hact
    have hok := hok.2
    simp only [decide_eq_true_eq] at hok
    exact lv_ldc hx hb hown (hts _ hok) hdg (kk _ _ _ hV)
  · cases hact
    have hok := hok.2
    simp only [decide_eq_true_eq] at hok
    exact lv_ldcw hx hb hown (hts _ hok) hdg (kk _ _ _ hV)
  · split at hact
    · rename_i hL
      cases hact
      exact lv_iload hx hb hdg (hV.1.2.2.2 _ _ hL).1 (kk _ _ _ hV)
    · cases hact
  · split at hact
    · rename_i hL
      cases hact
      exact lv_iload_n hx hb hdg rfl (hV.1.2.2.2 _ _ hL).1 (kk _ _ _ hV)
    · cases hact
  · split at hact
    · rename_i hL
      cases hact
      exact lv_aload hx hb hdg (hV.1.2.2.2 _ _ hL).1 (kk _ _ _ hV)
    · rename_i hL
      cases hact
      exact lv_aload hx hb hdg (hV.1.2.2.2 _ _ hL).1 (kk _ _ _ hV)
    · cases hact
  · split at hact
    · rename_i hL
      cases hact
      exact lv_aload_n hx hb hdg rfl (hV.1.2.2.2 _ _ hL).1 (kk _ _ _ hV)
    · rename_i hL
      cases hact
      exact lv_aload_n hx hb hdg rfl (hV.1.2.2.2 _ _ hL).1 (kk _ _ _ hV)
    · cases hact
  · split at hact
    · rename_i hl
      cases hact
      exact lv_istore hx hb hdg (xm_lv_has hV.1) (by rw [← hV.1.2.2.1]; exact hl) rfl (fun ls' h' => kk _ _ _ (hV.lv (xm_lv_set hV.1 hl rfl h')))
    · cases hact
  · split at hact
    · rename_i hl
      cases hact
      exact lv_istore_n hx hb hdg rfl (xm_lv_has hV.1) (by rw [← hV.1.2.2.1]; exact hl) rfl (fun ls' h' => kk _ _ _ (hV.lv (xm_lv_set hV.1 hl rfl h')))
    · cases hact
  · split at hact
    · rename_i hl
      cases hact
      exact lv_astore hx hb hdg (xm_lv_has hV.1) (by rw [← hV.1.2.2.1]; exact hl) rfl (fun ls' h' => kk _ _ _ (hV.lv (xm_lv_set hV.1 hl rfl h')))
    · cases hact
  · split at hact
    · rename_i hl
      cases hact
      exact lv_astore_n hx hb hdg rfl (xm_lv_has hV.1) (by rw [← hV.1.2.2.1]; exact hl) rfl (fun ls' h' => kk _ _ _ (hV.lv (xm_lv_set hV.1 hl rfl h')))
    · cases hact
  · split at hact
    · rename_i hL
      cases hact
      have hl := (List.getElem?_eq_some_iff.mp hL).1
      have hmem : (_, xm_tv B0 sb (Value.int _)) ∈ xm_al B0 sb L := xm_al_mem.mpr ⟨_, hL, rfl⟩
      obtain ⟨k0, hk0⟩ := List.getElem?_of_mem hmem
      exact lv_iinc hx hb hdg (xm_lv_has hV.1) hk0 rfl (by rw [← hV.1.2.2.1]; exact hl) rfl (fun ls' h' => kk _ _ _ (hV.lv (xm_lv_set hV.1 hl rfl h')))
    · cases hact
  · cases hact
    exact lv_iadd hx hb hdg (kk _ _ _ hV)
  · cases hact
    exact lv_isub hx hb hdg (kk _ _ _ hV)
  · cases hact
    exact lv_imul hx hb hdg (kk _ _ _ hV)
  · cases hact
    exact lv_iand hx hb hdg (kk _ _ _ hV)
  · cases hact
    exact lv_ior hx hb hdg (kk _ _ _ hV)
  · cases hact
    exact lv_ixor hx hb hdg (kk _ _ _ hV)
  · cases hact
    exact lv_ishl hx hb hdg (kk _ _ _ hV)
  · cases hact
    exact lv_ishr hx hb hdg (kk _ _ _ hV)
  · cases hact
    exact lv_iushr hx hb hdg rfl (kk _ _ _ hV)
  · cases hact
    exact lv_ineg hx hb hdg (kk _ _ _ hV)
  · cases hact
    exact lv_i2l hx hb hdg rfl (kk _ _ _ hV)
  · cases hact
    exact W.lcmp hx hb hdg (kk _ _ _ hV)
  · split at hact
    · rename_i hc
      cases hact
      exact lv_dup hx hb hdg (xm_cat_ok hc) (kk _ _ _ hV)
    · cases hact
  · split at hact
    · rename_i hc
      cases hact
      exact lv_pop hx hb hdg (xm_cat_ok hc) (kk _ _ _ hV)
    · cases hact
  · cases hact
    have hok := hok.2
    simp only [decide_eq_true_eq] at hok
    have k1 := kk _ _ _ hV
    exact lv_if_eq hx hb hdg hok (fun h => by rw [if_pos h] at k1; exact k1) (fun h => by rw [if_neg h] at k1; exact k1)
  · cases hact
    have hok := hok.2
    simp only [decide_eq_true_eq] at hok
    have k1 := kk _ _ _ hV
    exact lv_if_ne hx hb hdg hok (fun h => by rw [if_pos h] at k1; exact k1) (fun h => by rw [if_neg (fun q => q h)] at k1; exact k1)
  · cases hact
    have hok := hok.2
    simp only [decide_eq_true_eq] at hok
    have k1 := kk _ _ _ hV
    exact lv_if_lt hx hb hdg hok (fun h => by rw [if_pos h] at k1; exact k1) (fun h => by rw [if_neg h] at k1; exact k1)
  · cases hact
    have hok := hok.2
    simp only [decide_eq_true_eq] at hok
    have k1 := kk _ _ _ hV
    exact lv_if_ge hx hb hdg hok (fun h => by rw [if_pos h] at k1; exact k1) (fun h => by rw [if_neg h] at k1; exact k1)
  · cases hact
    have hok := hok.2
    simp only [decide_eq_true_eq] at hok
    have k1 := kk _ _ _ hV
    exact lv_if_gt hx hb hdg hok (fun h => by rw [if_pos h] at k1; exact k1) (fun h => by rw [if_neg h] at k1; exact k1)
  · cases hact
    have hok := hok.2
    simp only [decide_eq_true_eq] at hok
    have k1 := kk _ _ _ hV
    exact lv_if_le hx hb hdg hok (fun h => by rw [if_pos h] at k1; exact k1) (fun h => by rw [if_neg h] at k1; exact k1)
  · cases hact
    have hok := hok.2
    simp only [decide_eq_true_eq] at hok
    have k1 := kk _ _ _ hV
    exact lv_icmp_eq hx hb hdg hok (fun h => by rw [if_pos h] at k1; exact k1) (fun h => by rw [if_neg h] at k1; exact k1)
  · cases hact
    have hok := hok.2
    simp only [decide_eq_true_eq] at hok
    have k1 := kk _ _ _ hV
    exact lv_icmp_ne hx hb hdg hok (fun h => by rw [if_pos h] at k1; exact k1) (fun h => by rw [if_neg (fun q => q h)] at k1; exact k1)
  · cases hact
    have hok := hok.2
    simp only [decide_eq_true_eq] at hok
    have k1 := kk _ _ _ hV
    exact lv_icmp_lt hx hb hdg hok (fun h => by rw [if_pos h] at k1; exact k1) (fun h => by rw [if_neg h] at k1; exact k1)
  · cases hact
    have hok := hok.2
    simp only [decide_eq_true_eq] at hok
    have k1 := kk _ _ _ hV
    exact lv_icmp_ge hx hb hdg hok (fun h => by rw [if_pos h] at k1; exact k1) (fun h => by rw [if_neg h] at k1; exact k1)
  · cases hact
    have hok := hok.2
    simp only [decide_eq_true_eq] at hok
    have k1 := kk _ _ _ hV
    exact lv_icmp_gt hx hb hdg hok (fun h => by rw [if_pos h] at k1; exact k1) (fun h => by rw [if_neg h] at k1; exact k1)
  · cases hact
    have hok := hok.2
    simp only [decide_eq_true_eq] at hok
    have k1 := kk _ _ _ hV
    exact lv_icmp_le hx hb hdg hok (fun h => by rw [if_pos h] at k1; exact k1) (fun h => by rw [if_neg h] at k1; exact k1)
  · cases hact
    have hok := hok.2
    simp only [decide_eq_true_eq] at hok
    exact lv_goto hx hb hdg hok (kk _ _ _ hV)
  · have hok := hok.2
    simp only [Bool.and_eq_true, decide_eq_true_eq, List.all_eq_true] at hok
    split at hact
    · rename_i hc
      cases hact
      exact lv_tableOut hx hb hdg hc (by omega) (kk _ _ _ hV)
    · rename_i hc
      split at hact
      · rename_i off ho
        cases hact
        have h1 := hok.2 off (by
          obtain ⟨h2, h3⟩ := Array.getElem?_eq_some_iff.mp ho
          rw [← h3]
          simp)
        exact lv_tableIn hx hb hdg (fun q => hc (Or.inl q)) (fun q => hc (Or.inr q)) ho (by omega) (kk _ _ _ hV)
      · cases hact
  · split at hact
    · rename_i ci fs hr
      split at hact
      · rename_i hci
        subst hci
        split at hact
        · rename_i v hv
          cases hact
          have hok := hok.2
          dsimp only at hok
          split at hok
          · rename_i C T N hc
            simp only [Bool.and_eq_true, Bool.or_eq_true, decide_eq_true_eq, beq_iff_eq] at hok
            obtain ⟨⟨hbN, hT⟩, hlk⟩ := hok
            have hin := (hcl _ C T N hc).1
            have hv' : ∀ {n : Nat}, fs[n]? = some v → (fs.map (xm_tv B0 sb))[n]? = some (xm_tv B0 sb v) := fun {n} hn => by rw [List.getElem?_map, hn]; rfl
            rcases hlk with hlk | hlk
            · exact va_get hx hb (fun w hw => hts w (hin w hw)) (fun _ h => h) hown hK hV.2.1 _ (xm_tw_get hr) hc _ hbN (hts _ hlk) (fun x h => by rw [← hT]; exact h) (hv' hv) hdg (kk _ _ _ hV)
            · exact va_getN hx hb (fun w hw => hts w (hin w hw)) (fun _ h => h) hown hK hV.2.1 _ (xm_tw_get hr) hc _ hbN (hts _ hlk) (fun x h => by rw [← hT]; exact h) (hv' hv) hdg (kk _ _ _ hV)
          · cases hok
        · cases hact
      · cases hact
    · cases hact
  · split at hact
    · rename_i ci fs hr
      split at hact
      · rename_i hci
        obtain ⟨hci, hbl, hfit⟩ := hci
        subst hci
        cases hact
        have hok := hok.2
        dsimp only at hok
        split at hok
        · rename_i C T N hc
          simp only [Bool.and_eq_true, decide_eq_true_eq, beq_iff_eq] at hok
          obtain ⟨⟨⟨hbN, hT⟩, htd⟩, hlk⟩ := hok
          obtain ⟨hin, ⟨ty0, hty⟩, hnm⟩ := hcl _ C T N hc
          obtain ⟨ty, hpd, hnar, hfits⟩ := xm_fit_ok (B0 := B0) (sb := sb) htd hfit
          have hl' : b < (fs.map (xm_tv B0 sb)).length := by rw [List.length_map]; exact hbl
          have hset : ∀ (n : Nat) (w : Value), (fs.map (xm_tv B0 sb)).set n (xm_tv B0 sb w) = (fs.set n w).map (xm_tv B0 sb) := fun n w => by rw [List.map_set]
          split at hlk
          · rename_i hfin
            simp only [Bool.and_eq_true, decide_eq_true_eq, beq_iff_eq] at hlk
            obtain ⟨⟨hlk, hnm2⟩, hcls⟩ := hlk
            exact va_putF hx hb (fun w hw => hts w (hin w hw)) (fun _ h => h) ty0 hty hnm hown hK hV.2.1 xm_D hV.2.2.1 _ (xm_tw_get hr) hc _ hbN (hts _ hlk) (fun x h => by rw [← hT]; exact h) hfin (hmn hnm2) (hT.trans hcls.symm) hpd hnar hfits hl' hdg
              (fun H1 locs1 hP1 _ hS1 => kk _ _ _ (hV.wr hr (by rw [hset] at hP1; exact hP1) hS1))
          · rename_i hfin
            simp only [Bool.or_eq_true, decide_eq_true_eq] at hlk
            have hfin : (T b).2.2.2 = false := by simpa using hfin
            rcases hlk with hlk | hlk
            · exact va_put hx hb (fun w hw => hts w (hin w hw)) (fun _ h => h) ty0 hty hnm hown hK hV.2.1 xm_D hV.2.2.1 _ (xm_tw_get hr) hc _ hbN (hts _ hlk) (fun x h => by rw [← hT]; exact h) hfin hpd hnar hfits hl' hdg
                (fun H1 locs1 hP1 _ hS1 => kk _ _ _ (hV.wr hr (by rw [hset] at hP1; exact hP1) hS1))
            · exact va_putN hx hb (fun w hw => hts w (hin w hw)) (fun _ h => h) ty0 hty hnm hown hK hV.2.1 xm_D hV.2.2.1 _ (xm_tw_get hr) hc _ hbN (hts _ hlk) (fun x h => by rw [← hT]; exact h) hfin hpd hnar hfits hl' hdg
                (fun H1 locs1 hP1 _ hS1 => kk _ _ _ (hV.wr hr (by rw [hset] at hP1; exact hP1) hS1))
        · cases hok
      · cases hact
    · cases hact
  · split at hact
    · rename_i hin
      cases hact
      exact va_sld hx hb hX (Nat.lt_of_lt_of_le hsb hB0) (Nat.not_le.mpr hsb) hV.2.2.1 hin hdg (kk _ _ _ hV)
    · cases hact
  · split at hact
    · rename_i q n f hr
      split at hact
      · rename_i hin
        cases hact
        exact va_iald hx hb hK hV.2.1 _ _ (xm_tw_get hr) (xm_tys_get hin.1) hin.2 hdg (kk _ _ _ hV)
      · cases hact
    · cases hact
  · split at hact
    · rename_i q n f hr
      split at hact
      · rename_i hin
        cases hact
        exact va_iast hx hb hK hV.2.1 xm_D hV.2.2.1 _ _ (xm_tw_get hr) (xm_tys_get hin.1) hin.2 hdg (fun H1 locs1 hP1 _ hS1 => kk _ _ _ (hV.wr hr hP1 hS1))
      · cases hact
    · cases hact
  · split at hact
    · rename_i q n f hr
      split at hact
      · rename_i hin
        cases hact
        exact va_zald hx hb hK hV.2.1 _ _ (xm_tw_get hr) (xm_tys_get hin.1) hin.2 hdg (kk _ _ _ hV)
      · cases hact
    · cases hact
  · split at hact
    · rename_i q n f hr
      split at hact
      · rename_i hin
        cases hact
        exact va_zast hx hb hK hV.2.1 xm_D hV.2.2.1 _ _ (xm_tw_get hr) (xm_tys_get hin.1) hin.2 hdg (fun H1 locs1 hP1 _ hS1 => kk _ _ _ (hV.wr hr hP1 hS1))
      · cases hact
    · cases hact
  · split at hact
    · rename_i q n f hr
      split at hact
      · rename_i hin
        cases hact
        exact va_lald hx hb hK hV.2.1 _ _ (xm_tw_get hr) (xm_tys_get hin.1) hin.2 hdg (kk _ _ _ hV)
      · cases hact
    · cases hact
  · split at hact
    · rename_i q n f hr
      split at hact
      · rename_i hin
        cases hact
        exact va_last hx hb hK hV.2.1 xm_D hV.2.2.1 _ _ (xm_tw_get hr) (xm_tys_get hin.1) hin.2 hdg (fun H1 locs1 hP1 _ hS1 => kk _ _ _ (hV.wr hr hP1 hS1))
      · cases hact
    · cases hact
  · split at hact
    · rename_i q n f hr
      split at hact
      · rename_i hin
        cases hact
        obtain ⟨hq, hin⟩ := hin
        have hk1 : ∃ C, kt[q]? = some (.object C) := by
          cases hkq : kt[q]? with
          | none => rw [hkq] at hq; cases hq
          | some t => cases t <;> first | exact ⟨_, rfl⟩ | (rw [hkq] at hq; cases hq)
        obtain ⟨C, hk1⟩ := hk1
        have k1 := kk _ _ _ hV
        simp only [List.map_cons, xm_rf] at k1
        exact va_aldq hx hb hK hV.2.1 _ _ (xm_tw_get hr) (xm_tys_get hk1) hin hdg k1
      · cases hact
    · cases hact
  · cases hact
    exact va_slen hx hb hX (Nat.lt_of_lt_of_le hsb hB0) (Nat.not_le.mpr hsb) hV.2.2.1 hdg (kk _ _ _ hV)
  · split at hact
    · rename_i q x hr
      split at hact
      · rename_i hin
        cases hact
        have hr2 := xm_tw_get (dA := dA) (B0 := B0) (sb := sb) hr
        obtain ⟨n, f | f | f | f | f⟩ := x <;> exact va_alen hx hb hK hV.2.1 _ _ hr2 (xm_tys_get (List.getElem?_eq_getElem hin)) rfl hdg (kk _ _ _ hV)
      · cases hact
    · cases hact
  · cases hact

end XM3
