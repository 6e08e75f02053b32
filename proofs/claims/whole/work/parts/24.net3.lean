/-! 24.net3: the best pair, adding, lengths. -/
section XN3
variable {xs : Nat → Int32} {LS d : Nat} {ks : Nat} {fl : Bool} {Q : (Option Value ⊕ Nat) → xm_S → Prop}
variable {sites fibres : Nat} {fr to ln on bk co wy : Nat → Int32}
/-- the net, whatever its search has left behind -/
def xNs (h : List va_E) (sites fibres : Nat) (fr to ln : Nat → Int32) : Prop := ∃ on bk co wy, xNet h sites fibres fr to ln on bk co wy
/-- the second search: what it starts from -/
def xb2 (src dst : Nat → Nat) (ln : Nat → Int32) (sites fibres : Nat) (on bk co wy : Nat → Int32) (s : Int32) (a b : Nat) : (Nat → Int32) × (Nat → Int32) := xobo (fun f => nI (src f)) (fun f => nI (dst f)) ln fibres 7 ((xbp src dst ln sites fibres on bk co wy s a).2 b) (nI a) (xopn (xpr s ln) on fibres) (xopn (xpr s ln) bk fibres)
def xbq (src dst : Nat → Nat) (ln : Nat → Int32) (sites fibres : Nat) (on bk co wy : Nat → Int32) (s : Int32) (a b : Nat) : (Nat → Int32) × (Nat → Int32) :=
  xcw src dst (xb2 src dst ln sites fibres on bk co wy s a b).1 (xb2 src dst ln sites fibres on bk co wy s a b).2 sites fibres a (xbp src dst ln sites fibres on bk co wy s a).1 (xbp src dst ln sites fibres on bk co wy s a).2
/-- bestPair's answer -/
def xbr (src dst : Nat → Nat) (ln : Nat → Int32) (sites fibres : Nat) (on bk co wy : Nat → Int32) (s : Int32) (a b : Nat) : Int32 :=
  if (xbp src dst ln sites fibres on bk co wy s a).2 b = 0 then 0 else if (xbq src dst ln sites fibres on bk co wy s a b).2 b = 0 then 0 else (xbp src dst ln sites fibres on bk co wy s a).2 b ^^^ (xbq src dst ln sites fibres on bk co wy s a b).2 b
theorem c_N_bestPair {h : List va_E} {src dst : Nat → Nat} {s : Int32} {a b : Nat} (hN : xNet h sites fibres (fun f => nI (src f)) (fun f => nI (dst f)) ln on bk co wy) (hf : fibres ≤ 14) (hs : sites ≤ 7) (hs1 : 1 ≤ sites) (hsd : ∀ f, f < fibres → src f < 7 ∧ dst f < 7) (ha : a < 7) (hb : b < 7)
    (k : ∀ h' f', xNs h' sites fibres (fun f => nI (src f)) (fun f => nI (dst f)) ln → xS h h' 5 9 → Q (.inl (some (.int (xbr src dst ln sites fibres on bk co wy s a b)))) (h', ks, f')) : xG xs LS (d + 3) 25 (0, xm_entry xP 25 [.ref 1, .int s, .int (nI a), .int (nI b)], []) (h, ks, fl) Q := by
  show xG xs LS (d + 3) 25 (0, [some (.ref 1), some (.int s), some (.int (nI a)), some (.int (nI b)), none, none], []) (h, ks, fl) Q
  have hN0 := hN
  obtain ⟨h1, h2, h3, h4, h5, h6, h7, h8⟩ := hN
  refine xg_aload_n xa_N_bestPair_0 rfl ?_
  refine xg_iload_n xa_N_bestPair_1 rfl ?_
  refine xg_iload_n xa_N_bestPair_2 rfl ?_
  refine xg_iload_n xa_N_bestPair_3 rfl ?_
  refine xg_callV1 xa_N_bestPair_4 ⟨Nat.le_of_ble_eq_true rfl, Nat.le_of_ble_eq_true rfl, rfl⟩ rfl rfl (by assumption) ?_
  refine c_N_bestPath hN0 hf hs hs1 hsd ha hb (fun hA fA hNA hSA => xK1_d ?_)
  unfold xbr at k
  have hA1 := hNA.1
  refine xg_istore (L' := [_, _, _, _, _, _]) xa_N_bestPair_7 (Nat.le_of_ble_eq_true rfl) rfl ?_
  refine xg_iload xa_N_bestPair_9 rfl ?_
  refine xg_if_ne xa_N_bestPair_11 (fun hc => ?_) (fun hc => ?_)
  · rw [if_neg hc] at k
    refine xg_aload_n xa_N_bestPair_16 rfl ?_
    refine xg_iload xa_N_bestPair_17 rfl ?_
    refine xg_iload_n xa_N_bestPair_19 rfl ?_
    refine xg_callV0 xa_N_bestPair_20 ⟨Nat.le_of_ble_eq_true rfl, Nat.le_of_ble_eq_true rfl, rfl⟩ rfl rfl (by assumption) ?_
    refine c_N_openBackOnly hNA hf (fun hB fB hNB hSB => xK0_d ?_)
    have hB1 := hNB.1
    refine xg_aload_n xa_N_bestPair_23 rfl ?_
    refine xg_iload_n xa_N_bestPair_24 rfl ?_
    refine xg_iload_n xa_N_bestPair_25 rfl ?_
    refine xg_callV1 xa_N_bestPair_26 ⟨Nat.le_of_ble_eq_true rfl, Nat.le_of_ble_eq_true rfl, rfl⟩ rfl rfl (by assumption) ?_
    refine c_N_cheapestWay hNB hf hs hs1 hsd ha hb (fun hC fC hNC hSC => xK1_d ?_)
    refine xg_istore (L' := [_, _, _, _, _, _]) xa_N_bestPair_29 (Nat.le_of_ble_eq_true rfl) rfl ?_
    refine xg_iload xa_N_bestPair_31 rfl ?_
    refine xg_if_ne xa_N_bestPair_33 (fun hc2 => ?_) (fun hc2 => ?_)
    · have hc2 : ¬ (xbq src dst ln sites fibres on bk co wy s a b).2 b = 0 := hc2
      rw [if_neg hc2] at k
      refine xg_iload xa_N_bestPair_40 rfl ?_
      refine xg_iload xa_N_bestPair_42 rfl ?_
      refine xg_ixor xa_N_bestPair_44 rfl ?_
      exact xg_ireturn xa_N_bestPair_45 (k _ _ ⟨_, _, _, _, hNC⟩ ((hSA.tr hSB).tr hSC))
    · have hc2 : (xbq src dst ln sites fibres on bk co wy s a b).2 b = 0 := hc2
      rw [if_pos hc2] at k
      refine xg_iconst (v := 0) xa_N_bestPair_36 (by decide) ?_
      refine xg_goto xa_N_bestPair_37 ?_
      exact xg_ireturn xa_N_bestPair_45 (k _ _ ⟨_, _, _, _, hNC⟩ ((hSA.tr hSB).tr hSC))
  · rw [if_pos hc] at k
    refine xg_iconst (v := 0) xa_N_bestPair_14 (by decide) ?_
    exact xg_ireturn xa_N_bestPair_15 (k _ _ ⟨_, _, _, _, hNA⟩ hSA)
theorem c_N_startWith {h : List va_E} {n : Nat} (hN : xNet h sites fibres fr to ln on bk co wy) (k : ∀ h' f', xNet h' n 0 fr to ln on bk co wy → xS h h' 1 9 → Q (.inl none) (h', ks, f')) : xG xs LS d 12 (0, xm_entry xP 12 [.ref 1, .int (nI n)], []) (h, ks, fl) Q := by
  show xG xs LS d 12 (0, [some (.ref 1), some (.int (nI n))], []) (h, ks, fl) Q
  obtain ⟨h1, h2, h3, h4, h5, h6, h7, h8⟩ := hN
  refine xg_aload_n xa_N_startWith_0 rfl ?_
  refine xg_iload_n xa_N_startWith_1 rfl ?_
  refine xg_putf (fs' := [_, _, _, _, _, _, _, _, _]) xa_N_startWith_2 (by assumption) (Nat.le_of_ble_eq_true rfl) rfl rfl (fun hq2 u2 => ?_)
  have h1 := u2.2.1
  refine xg_aload_n xa_N_startWith_5 rfl ?_
  refine xg_iconst (v := 0) xa_N_startWith_6 (by decide) ?_
  refine xg_putf (fs' := [_, _, _, _, _, _, _, _, _]) xa_N_startWith_7 (by assumption) (Nat.le_of_ble_eq_true rfl) rfl rfl (fun hq7 u7 => ?_)
  have u := u2.trans u7
  exact xg_return xa_N_startWith_10 (k _ _ ⟨u.2.1, (u.2.2 2 (by decide)).trans h2, (u.2.2 3 (by decide)).trans h3, (u.2.2 4 (by decide)).trans h4, (u.2.2 5 (by decide)).trans h5, (u.2.2 6 (by decide)).trans h6, (u.2.2 7 (by decide)).trans h7, (u.2.2 8 (by decide)).trans h8⟩ (u.toS (by decide) (by decide)))
theorem c_N_add {h : List va_E} {x y z : Int32} (hN : xNet h sites fibres fr to ln on bk co wy) (hf : fibres < 14) (k : ∀ h' f', xNet h' sites (fibres + 1) (upd fr fibres x) (upd to fibres y) (upd ln fibres z) on bk co wy → xS h h' 1 9 → Q (.inl (some (.int (nI fibres)))) (h', ks, f')) : xG xs LS d 16 (0, xm_entry xP 16 [.ref 1, .int x, .int y, .int z], []) (h, ks, fl) Q := by
  show xG xs LS d 16 (0, [some (.ref 1), some (.int x), some (.int y), some (.int z), none], []) (h, ks, fl) Q
  obtain ⟨h1, h2, h3, h4, h5, h6, h7, h8⟩ := hN
  refine xg_aload_n xa_N_add_0 rfl ?_
  refine xg_getfield xa_N_add_1 (by assumption) rfl ?_
  refine xg_istore (L' := [_, _, _, _, _]) xa_N_add_4 (Nat.le_of_ble_eq_true rfl) rfl ?_
  refine xg_aload_n xa_N_add_6 rfl ?_
  refine xg_getfield xa_N_add_7 (by assumption) rfl ?_
  refine xg_iload xa_N_add_10 rfl ?_
  refine xg_iload_n xa_N_add_12 rfl ?_
  refine xg_iastf_n xa_N_add_13 (by assumption) rfl (by assumption) (by decide) (fun h13 u13 => ?_)
  have h1 := (u13.2.2 1 (by decide)).trans h1
  have h3 := (u13.2.2 3 (by decide)).trans h3
  refine xg_aload_n xa_N_add_14 rfl ?_
  refine xg_getfield xa_N_add_15 (by assumption) rfl ?_
  refine xg_iload xa_N_add_18 rfl ?_
  refine xg_iload_n xa_N_add_20 rfl ?_
  refine xg_iastf_n xa_N_add_21 (by assumption) rfl (by assumption) (by decide) (fun h21 u21 => ?_)
  have h1 := (u21.2.2 1 (by decide)).trans h1
  have h4 := (u21.2.2 4 (by decide)).trans ((u13.2.2 4 (by decide)).trans h4)
  refine xg_aload_n xa_N_add_22 rfl ?_
  refine xg_getfield xa_N_add_23 (by assumption) rfl ?_
  refine xg_iload xa_N_add_26 rfl ?_
  refine xg_iload_n xa_N_add_28 rfl ?_
  refine xg_iastf_n xa_N_add_29 (by assumption) rfl (by assumption) (by decide) (fun h29 u29 => ?_)
  have h1 := (u29.2.2 1 (by decide)).trans h1
  refine xg_aload_n xa_N_add_30 rfl ?_
  refine xg_dup_r xa_N_add_31 ?_
  refine xg_getfield xa_N_add_32 (by assumption) rfl ?_
  refine xg_iconst (v := 1) xa_N_add_35 (by decide) ?_
  refine xg_iadd xa_N_add_36 (nI_1 _) ?_
  refine xg_putf (fs' := [_, _, _, _, _, _, _, _, _]) xa_N_add_37 (by assumption) (Nat.le_of_ble_eq_true rfl) rfl rfl (fun h37 u37 => ?_)
  refine xg_iload xa_N_add_40 rfl ?_
  have q : ∀ j, j ≠ 1 → j ≠ 2 → j ≠ 3 → j ≠ 4 → h37[j]? = h[j]? := fun j e1 e2 e3 e4 => (u37.2.2 j e1).trans ((u29.2.2 j e4).trans ((u21.2.2 j e3).trans (u13.2.2 j e2)))
  refine xg_ireturn xa_N_add_42 (k _ _ ⟨u37.2.1, ?_, ?_, ?_, (q 5 (by decide) (by decide) (by decide) (by decide)).trans h5, (q 6 (by decide) (by decide) (by decide) (by decide)).trans h6, (q 7 (by decide) (by decide) (by decide) (by decide)).trans h7, (q 8 (by decide) (by decide) (by decide) (by decide)).trans h8⟩ ⟨u37.1.trans (u29.1.trans (u21.1.trans u13.1)), fun j hj => q j (by omega) (by omega) (by omega) (by omega)⟩)
  · exact (u37.2.2 2 (by decide)).trans ((u29.2.2 2 (by decide)).trans ((u21.2.2 2 (by decide)).trans u13.2.1))
  · exact (u37.2.2 3 (by decide)).trans ((u29.2.2 3 (by decide)).trans u21.2.1)
  · exact (u37.2.2 4 (by decide)).trans u29.2.1
/-- the length of a set: its first n fibres -/
def xlen (ln : Nat → Int32) (s : Int32) : Nat → Int32
  | 0 => 0
  | n + 1 => if xb s n = true then xlen ln s n + ln n else xlen ln s n
theorem c_N_lengthOf {h : List va_E} {s : Int32} (hN : xNet h sites fibres fr to ln on bk co wy) (hf : fibres ≤ 14) (k : Q (.inl (some (.int (xlen ln s fibres)))) (h, ks, fl)) : xG xs LS (d + 1) 55 (0, xm_entry xP 55 [.ref 1, .int s], []) (h, ks, fl) Q := by
  obtain ⟨h1, h2, h3, h4, h5, h6, h7, h8⟩ := hN
  show xG xs LS (d + 1) 55 (0, [some (.ref 1), some (.int s), none, none], []) (h, ks, fl) Q
  have loop : ∀ n i, i + n = fibres → xG xs LS (d + 1) 55 (4, [some (.ref 1), some (.int s), some (.int (xlen ln s i)), some (.int (nI i))], []) (h, ks, fl) Q := by
    intro n
    induction n with
    | zero =>
      intro i hi
      have e : i = fibres := by omega
      subst e
      refine xg_iload_n xa_N_lengthOf_4 rfl ?_
      refine xg_aload_n xa_N_lengthOf_5 rfl ?_
      refine xg_getfield xa_N_lengthOf_6 (by assumption) rfl ?_
      refine xg_icmp_ge xa_N_lengthOf_9 (fun hc => ?_) (fun hc => absurd (nI_le (by omega) (by omega)) hc)
      refine xg_iload_n xa_N_lengthOf_35 rfl ?_
      exact xg_ireturn xa_N_lengthOf_36 k
    | succ n ih =>
      intro i hi
      have hi14 : i < 14 := by omega
      have go : ∀ v, v = xlen ln s (i + 1) → xG xs LS (d + 1) 55 (29, [some (.ref 1), some (.int s), some (.int v), some (.int (nI i))], []) (h, ks, fl) Q := by
        intro v hv
        subst hv
        refine xg_iinc (L' := [_, _, _, _]) xa_N_lengthOf_29 rfl (xi_inc _) rfl ?_
        refine xg_goto xa_N_lengthOf_32 ?_
        exact ih (i + 1) (by omega)
      refine xg_iload_n xa_N_lengthOf_4 rfl ?_
      refine xg_aload_n xa_N_lengthOf_5 rfl ?_
      refine xg_getfield xa_N_lengthOf_6 (by assumption) rfl ?_
      refine xg_icmp_ge xa_N_lengthOf_9 (fun hc => absurd hc (nI_ge (by omega) (by omega))) (fun hc => ?_)
      refine xg_iload_n xa_N_lengthOf_12 rfl ?_
      refine xg_iload_n xa_N_lengthOf_13 rfl ?_
      refine xg_callS1 xa_N_lengthOf_14 ⟨Nat.le_of_ble_eq_true rfl, Nat.le_of_ble_eq_true rfl, rfl⟩ rfl rfl ?_
      refine c_F_holds ?_
      refine xK1_c ?_
      refine xg_if_eq xa_N_lengthOf_17 (fun hc => go _ ?_) (fun hc => ?_)
      · show _ = if xb s i = true then _ else _
        rw [if_neg (by rw [(xz0 _).mp hc]; decide)]
      · have hb : xb s i = true := by
          cases hb : xb s i with
          | true => rfl
          | false => exact absurd ((xz0 _).mpr hb) hc
        refine xg_iload_n xa_N_lengthOf_20 rfl ?_
        refine xg_aload_n xa_N_lengthOf_21 rfl ?_
        refine xg_getfield xa_N_lengthOf_22 (by assumption) rfl ?_
        refine xg_iload_n xa_N_lengthOf_25 rfl ?_
        refine xg_iald_n xa_N_lengthOf_26 (by assumption) rfl (by assumption) (by decide) ?_
        refine xg_iadd xa_N_lengthOf_27 rfl ?_
        refine xg_istore_n (L' := [_, _, _, _]) xa_N_lengthOf_28 (Nat.le_of_ble_eq_true rfl) rfl ?_
        refine go _ ?_
        show _ = if xb s i = true then _ else _
        rw [if_pos hb]
  refine xg_iconst (v := 0) xa_N_lengthOf_0 (by decide) ?_
  refine xg_istore_n (L' := [_, _, _, _]) xa_N_lengthOf_1 (Nat.le_of_ble_eq_true rfl) rfl ?_
  refine xg_iconst (v := 0) xa_N_lengthOf_2 (by decide) ?_
  refine xg_istore_n (L' := [_, _, _, _]) xa_N_lengthOf_3 (Nat.le_of_ble_eq_true rfl) rfl ?_
  exact loop fibres 0 (by omega)
end XN3
