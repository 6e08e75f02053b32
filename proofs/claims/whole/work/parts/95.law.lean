/-! THE CLAIM OUT OF ONE WALK OF THE LAW'S BODY. Your part is whole_start (and what it stands on); all else here is the same for every law, but numbers. -/
def R_law : String := "FibrePairsLaw"
def lw_P (b : Addr) (xs : List Int32) (args : Array Value) (s : State) : Prop := args = #[.ref b] ∧ s.IntsAt b xs ∧ xs.length ≤ 2048 ∧ (Jvm.Cond.and given_1 narrow_1).before args s = true
def lw_Q (_ : Array Value) (s : State) (o : Outcome) (t : State) : Prop := o = .returned (some (.int 1)) ∧ Framed s o t [] 601024 7293034
def lw_Z (below : List Frame) (a : Array Value) (s : State) : State → Prop := fun t => ∃ o, t.status = .running ∧ Ended t below o ∧ lw_Q a s o t
/-- what holds at the law's entry: the machine, the code, the tables' words (any of lw_tbl by 'hts w (by decide +kernel)'), the script of L ints xs at the cell b, what the Statement gives of the start (any of its parts by flat_of_before) -/
def lw_At (p : Program) (s : State) (m : MethodId) (meth : Method) (c : Code) (b L : Nat) (xs : Nat → Int32) : Prop :=
  p.tables.exec = Jvm.exec ∧ c.code = code ∧ meth.sig.returnType = ret ∧ c.maxLocals = 7 ∧ s.vm.findClass R_law = some m.cls ∧ (∀ w ∈ lw_tbl, w.before #[Value.ref b] s = true) ∧ va_X b L xs s s.heap ∧ b < s.heap.size ∧ meth.locks = false ∧ (Jvm.Cond.and given_1 narrow_1).before #[Value.ref b] s = true
theorem xm_le.rf (s : State) : xm_le s s := ⟨State.WarmedH.refl s, Nat.le_refl _, fun _ _ => rfl⟩
theorem xT_flags {l : Launch} (h : l.flags = flags0) : l.stackTraces = false := by
  unfold Launch.stackTraces
  rw [h]
  decide +kernel
/-- the run of the small machine that is wanted: the law answers 1, and has room -/
def xLaw (xs : Nat → Int32) (L : Nat) : Prop := ∃ (n : Nat) (S1 : xm_S), xm_run xs L xKT xDF xP n 10 104 (0, [some (.retAddr 0), none, none, none, none, none, none], []) ([], 0, true) = some (.inl (some (.int 1)), S1) ∧ S1.1.length ≤ 601024 ∧ S1.2.1 ≤ 7293034
theorem xT_start {p : Program} {e : Env} {s : State} {m : MethodId} {below : List Frame} {meth : Method} {c : Code} {l : Launch} (hfl : l.flags = flags0) {b L : Nat} {xs : Nat → Int32} (hrun : xLaw xs L) (C0 : lw_At p s m meth c b L xs) : W p l e room_1 s m #[Value.ref b] below meth c s.heap [] 0 0 (lw_Z below #[Value.ref b] s) (entryFrame m ([Value.ref b] : List Value).toArray 7) := by
  obtain ⟨hx, hb, hret, hml, hown, hts, hX, hbl, hlk, hgv⟩ := C0
  obtain ⟨D, dA, hK⟩ := xT_K hts
  obtain ⟨n, S1, hr, hc1, hc2⟩ := hrun
  have hs := flat_of_before _ hgv
  have hWS : ∀ w, xWS w = true → ∀ (a' : Array Value) (U : State), s.WarmedH U.vm → w.before a' U = true := by
    intro w hw a' U hU
    unfold xWS at hw
    rw [Bool.and_eq_true] at hw
    exact xT_warm hw.1 (hts _ (xT_mem hw.2)) hU
  have hTop : xm_Top xWS xCL xKT xDF xP dA D s.heap.size b L xs s := by
    refine ⟨hWS, hK, hX, hbl, rfl, fun a' => xm_isRef (hs _ (by decide +kernel)) (xm_le.rf s), fun a' => xm_isRef (hs _ (by decide +kernel)) (xm_le.rf s), fun a' => xm_lays (hts _ (by decide +kernel)) (xm_le.rf s), fun a' => xm_lays (hts _ (by decide +kernel)) (xm_le.rf s), xT_cls, fun mi M hM => ?_, fun M mi hM h hh ci C C' T T' N' h1 h2 U hU q q' hq hq' => ?_⟩
    · obtain ⟨g1, g2⟩ := xT_all M (List.mem_of_getElem? hM)
      refine ⟨g1, fun x hx => ?_⟩
      have g3 := g2 x hx
      unfold xOK at g3
      simp only [Bool.and_eq_true] at g3
      exact ⟨g3.1.1.1, g3.1.1.2, g3.1.2, g3.2⟩
    · rw [hU.alike.assignable]
      rw [hU.alike.findClass] at hq hq'
      exact xT_cast hts hgv (xT_n0 h1) (xT_hand M (List.mem_of_getElem? hM) h hh) h1 h2 hq hq'
  have htr : ∀ e : Env, l.admits e → e.platform.stackTraces = false := fun e he => (show e.platform.stackTraces = l.stackTraces by rw [he.platform]).trans (xT_flags hfl)
  obtain ⟨f1, f2⟩ := xm_first (m := m) (B0 := s.heap.size) (sb := b) (as := [.retAddr 0]) (nA := 7) (fun v hv => by rw [List.mem_singleton.mp hv]; rfl) (by decide)
  have hw := xm_sim (l := l) (KC := 601024) (KS := 7293034) hTop htr n 10 104 _ _ _ _ hr hc1 hc2 p e room_1 s m #[Value.ref b] below meth c s.heap [] 0 0 _ [] 0 xp_L_law rfl
    ⟨hx, hown, fun h => absurd h (by decide), hb, hml, hret, hlk, fun h => absurd rfl h, xm_le.rf s, rfl, rfl, rfl, rfl, rfl⟩ ⟨f2, (fun k q hk => by cases hk), va_S.rf, rfl, rfl, fun _ => ⟨rfl, rfl⟩⟩
  have f1' : entryFrame m ([Value.ref b] : List Value).toArray 7 = _ := f1
  rw [f1']
  refine xm_mono (fun t ht => ?_) hw
  obtain ⟨o, h1, h2, rfl, h4, -, -, -, -, L', h8, -, -, h9⟩ := ht
  refine ⟨_, h1, h2, rfl, ⟨_, rfl⟩, h4, State.sameButNew.weaken h9 (fun y hy hlt => ?_) (by show S1.1.length - 0 ≤ _; omega) (by show S1.2.1 - 0 ≤ _; omega)⟩
  exact absurd (show y.base < s.heap.size from hlt) (Nat.not_lt.mpr (h8 y hy))
/-- the law's run in the small machine -/
theorem xT_law {xs : Nat → Int32} {L : Nat} (hL : L ≤ 2048) : xLaw xs L := by
  obtain ⟨n, r, S1, h1, h2, h3, h4⟩ := l_law (xs := xs) hL
  subst h2
  exact ⟨n, S1, h1, h3, h4⟩
theorem whole_start {p : Program} {e : Env} {s : State} {m : MethodId} {below : List Frame} {meth : Method} {c : Code} {l : Launch} (hfl : l.flags = flags0) {b L : Nat} {xs : Nat → Int32} (hL : L ≤ 2048) (C0 : lw_At p s m meth c b L xs) : W p l e room_1 s m #[Value.ref b] below meth c s.heap [] 0 0 (lw_Z below #[Value.ref b] s) (entryFrame m ([Value.ref b] : List Value).toArray 7) := xT_start hfl (xT_law hL) C0
set_option maxHeartbeats 4000000 in
theorem lw_walk (l : Launch) (hfl : l.flags = flags0) (b : Addr) (xs : List Int32) : MetFree l x (headSpec (Jvm.Cond.code x code maxLocals ret :: tables_1) room_1) (lw_P b xs) (fun _ _ _ _ _ => True) lw_Q := by
  refine MetFree.of_bodyS (code := code) (maxLocals := maxLocals) (ret := ret) (by decide) ?_ ?_
  · intro args s m h hn
    obtain ⟨meth, c, h1, h2, h3, h4, h5, h6, -, -⟩ := Cond.code_spec hn (atoms_spec (ws := Jvm.Cond.code x code maxLocals ret :: tables_1) h _ List.mem_cons_self)
    exact ⟨meth, c, h1, h2, h3, h4, h5, h6⟩
  · intro p e s m args below meth c s₁ B hml0 hP _
    obtain ⟨rfl, hx, hbd, hgv⟩ := hP
    obtain ⟨scr, harrAt, hlist, hof, hsmall⟩ := hx
    obtain ⟨hcb, hkn, -, -⟩ := State.arrayAt?_spec harrAt
    have hown : s.vm.findClass R_law = some m.cls := findClass_of_methodNamed B.named
    have hts0 : ∀ c ∈ (Jvm.Cond.code x code maxLocals ret :: tables_1), c.before #[Value.ref b] s = true := atoms_spec (ws := Jvm.Cond.code x code maxLocals ret :: tables_1) B.pre
    have hts : ∀ w ∈ lw_tbl, w.before #[Value.ref b] s = true := k2_hts_sels lw_privs (fun w hw => hts0 w (List.mem_cons_of_mem _ hw)) lw_privs_ok
    have hml : c.maxLocals = 7 := B.maxLocals_eq (hts0 _ List.mem_cons_self)
    have X₀ : Stand p l e room_1 s m #[Value.ref b] below meth c s₁ [] 0 0 := Stand.of_body B
    have hh0 : s₁.heap = s.heap := by rw [B.state]; rfl
    have hsz : scr.slots.size = xs.length := by rw [← Array.length_toList, hlist, List.length_map]
    have hval : ∀ j : Nat, j < xs.length → scr.slots[j]? = some (.int (xs.getD j 0)) := fun j hj => by
      rw [← Array.getElem?_toList, hlist]
      simp [hj]
    have hbl : b < s.heap.size := (Array.getElem?_eq_some_iff.mp hcb).1
    have hX : va_X b xs.length (fun j => xs.getD j 0) s s.heap := ⟨scr, hcb, hof, hkn, hsz, hval⟩
    have K : W p l e room_1 s m #[Value.ref b] below meth c s₁.heap [] 0 0 (lw_Z below #[Value.ref b] s) (entryFrame m ([Value.ref b] : List Value).toArray 7) := by
      rw [hh0]
      exact whole_start hfl hbd ⟨B.exec, B.bytes, B.returns, hml, hown, hts, hX, hbl, B.notSynchronized, hgv⟩
    obtain ⟨t, a1, o, b1, b2, b3⟩ := K s₁ rfl X₀
    exact ⟨t, o, a1, b1, b2, b3⟩
theorem lw_pre_spec {args : Array Value} {s : State} (h : (Jvm.Cond.and given_1 narrow_1).before args s = true) (hr : rest_1_c.before args s = true) : ∃ (b : Addr) (xs : List Int32), lw_P b xs args s := by
  have hs := flat_of_before _ h
  have hq := flat_of_before _ hr
  have hc : (Cond.count 1).before args s = true := hs _ (by decide +kernel)
  have harr : (Cond.arrayOf (.arg 0) .int).before args s = true := hs _ (by decide +kernel)
  have hle : (Cond.le (.length (.arg 0)) (.int 2048)).before args s = true := hs _ (by decide +kernel)
  have hlen : (Cond.isInt (.length (.arg 0))).before args s = true := hq _ (by decide +kernel)
  have hall : (Cond.all (.arg 0) (.isInt (.elem (.arg 0) (.index 0)))).before args s = true := hq _ (by decide +kernel)
  obtain ⟨b, xs, hb, hx⟩ := State.ints_of_pre rfl harr hlen hall
  have hsm : xs.length < 2 ^ 31 := hx.choose_spec.2.2.2
  have hev : (Term.length (.arg 0)).eval args s none [] s = some (.int xs.length.toInt32) := hx.length_eval hb
  have hv := Cond.le_ints hev (show (Term.int 2048).eval args s none [] s = some (.int 2048) from rfl)
  have hd : xs.length.toInt32 ≤ 2048 := by
    simpa [Cond.before, Cond.holds, hv] using hle
  have hN : xs.length ≤ 2048 := (Int32.ofNat_le_ofNat hsm (by decide)).mp (show Int32.ofNat xs.length ≤ Int32.ofNat 2048 from hd)
  exact ⟨b, xs, Cond.one_arg hc (show args[0]? = some (.ref b) from hb), hx, hN, h⟩
theorem lw_comes (l : Launch) (hfl : l.flags = flags0) : Comes l x (Jvm.Cond.code x code maxLocals ret :: tables_1) room_1 (fun tb e args s => Calls_1 tb e args s ∧ rest_1 tb e args s ∧ Pre_1 tb e args s)
    (fun _ _ args s o t => lw_Q args s o t) := by
  intro p e ha hc hk s m args below hf hfit hheap happ hpre
  obtain ⟨b, xs, hP⟩ := lw_pre_spec hpre.2.2 hpre.2.1
  obtain ⟨k, o, h1, h2, h3, hQ⟩ := lw_walk l hfl b xs p e ha hc hk s m args below hf ((Spec.applies_iff_loose hf).mp happ).1 hP trivial
  exact ⟨k, o, h1, h2, h3, hQ⟩
theorem lw_frame {s t : State} {o : Outcome} {args : Array Value} (h : Framed s o t [] 601024 7293034) :
    Framed s o t (fieldLocs frame_1_writes args s ++ arrayLocs frame_1_arrays args s ++ staticLocs frame_1_statics s) 601024 7293034 := h
theorem lw_limb (L : Cond) (hL : ∀ (args : Array Value) (s t : State), L.after args s (.returned (some (.int 1))) t = true) :
    ArmFor flags0 classFile x code maxLocals ret World_1 tables_1 room_1 Calls_1 rest_1 Pre_1
      (fun tb e a s o t => postC L tb e a s o t ∧ Framed s o t (fieldLocs frame_1_writes a s ++ arrayLocs frame_1_arrays a s ++ staticLocs frame_1_statics s) 601024 7293034) := by
  intro l hfl _ _ p e ha hc hk s m args below hf hfit hheap happ hpre
  obtain ⟨k, o, h1, h2, h3, rfl, hF⟩ := lw_comes l hfl p e ha hc hk s m args below hf hfit hheap happ hpre
  exact ⟨k, _, h1, h2, h3, hL args s _, lw_frame hF⟩
theorem i_vc : Claimed_1_1 ∧ Claimed_1_2 := ⟨lw_limb limb_1_1 (fun args s t => by simp [limb_1_1, Cond.after, Cond.holds, Cond.value]), lw_limb limb_1_2 (fun args s t => Cond.after_iff.mpr (by
  first | (rw [show limb_1_2 = Cond.eq .result (.int 1) from rfl, Cond.eq_ints (x := 1) (y := 1) rfl rfl]; simp; done) | (simp [limb_1_2, Cond.value, Term.eval]; done)))⟩
