/-! 20.leaf: the class's smallest methods. -/
theorem xa_F_holds_0 : xm_at xP 28 0 = some (0, .iload_n 0, 0, 0, 0, 0) := by decide +kernel
theorem xa_F_holds_1 : xm_at xP 28 1 = some (1, .iconst 1, 0, 0, 0, 0) := by decide +kernel
theorem xa_F_holds_2 : xm_at xP 28 2 = some (2, .iload_n 1, 0, 0, 0, 0) := by decide +kernel
theorem xa_F_holds_3 : xm_at xP 28 3 = some (3, .ishl, 0, 0, 0, 0) := by decide +kernel
theorem xa_F_holds_4 : xm_at xP 28 4 = some (4, .iand, 0, 0, 0, 0) := by decide +kernel
theorem xa_F_holds_5 : xm_at xP 28 5 = some (5, .ifCond .eq 7, 12, 0, 0, 0) := by decide +kernel
theorem xa_F_holds_8 : xm_at xP 28 8 = some (8, .iconst 1, 0, 0, 0, 0) := by decide +kernel
theorem xa_F_holds_9 : xm_at xP 28 9 = some (9, .goto 4, 13, 0, 0, 0) := by decide +kernel
theorem xa_F_holds_12 : xm_at xP 28 12 = some (12, .iconst 0, 0, 0, 0, 0) := by decide +kernel
theorem xa_F_holds_13 : xm_at xP 28 13 = some (13, .ireturn, 0, 0, 0, 1) := by decide +kernel
theorem xa_N_otherEnd_0 : xm_at xP 35 0 = some (0, .aload_n 0, 0, 0, 0, 0) := by decide +kernel
theorem xa_N_otherEnd_1 : xm_at xP 35 1 = some (1, .getfield 15, 1, 2, 0, 0) := by decide +kernel
theorem xa_N_otherEnd_4 : xm_at xP 35 4 = some (4, .iload_n 1, 0, 0, 0, 0) := by decide +kernel
theorem xa_N_otherEnd_5 : xm_at xP 35 5 = some (5, .iaload, 0, 0, 0, 0) := by decide +kernel
theorem xa_N_otherEnd_6 : xm_at xP 35 6 = some (6, .iload_n 2, 0, 0, 0, 0) := by decide +kernel
theorem xa_N_otherEnd_7 : xm_at xP 35 7 = some (7, .if_icmp .ne 12, 19, 0, 0, 0) := by decide +kernel
theorem xa_N_otherEnd_10 : xm_at xP 35 10 = some (10, .aload_n 0, 0, 0, 0, 0) := by decide +kernel
theorem xa_N_otherEnd_11 : xm_at xP 35 11 = some (11, .getfield 19, 1, 3, 0, 0) := by decide +kernel
theorem xa_N_otherEnd_14 : xm_at xP 35 14 = some (14, .iload_n 1, 0, 0, 0, 0) := by decide +kernel
theorem xa_N_otherEnd_15 : xm_at xP 35 15 = some (15, .iaload, 0, 0, 0, 0) := by decide +kernel
theorem xa_N_otherEnd_16 : xm_at xP 35 16 = some (16, .goto 9, 25, 0, 0, 0) := by decide +kernel
theorem xa_N_otherEnd_19 : xm_at xP 35 19 = some (19, .aload_n 0, 0, 0, 0, 0) := by decide +kernel
theorem xa_N_otherEnd_20 : xm_at xP 35 20 = some (20, .getfield 15, 1, 2, 0, 0) := by decide +kernel
theorem xa_N_otherEnd_23 : xm_at xP 35 23 = some (23, .iload_n 1, 0, 0, 0, 0) := by decide +kernel
theorem xa_N_otherEnd_24 : xm_at xP 35 24 = some (24, .iaload, 0, 0, 0, 0) := by decide +kernel
theorem xa_N_otherEnd_25 : xm_at xP 35 25 = some (25, .ireturn, 0, 0, 0, 0) := by decide +kernel
theorem xa_N_weight_0 : xm_at xP 29 0 = some (0, .aload_n 0, 0, 0, 0, 0) := by decide +kernel
theorem xa_N_weight_1 : xm_at xP 29 1 = some (1, .getfield 22, 1, 4, 0, 0) := by decide +kernel
theorem xa_N_weight_4 : xm_at xP 29 4 = some (4, .iload_n 1, 0, 0, 0, 0) := by decide +kernel
theorem xa_N_weight_5 : xm_at xP 29 5 = some (5, .iaload, 0, 0, 0, 0) := by decide +kernel
theorem xa_N_weight_6 : xm_at xP 29 6 = some (6, .bipush 14, 0, 0, 0, 0) := by decide +kernel
theorem xa_N_weight_8 : xm_at xP 29 8 = some (8, .ishl, 0, 0, 0, 0) := by decide +kernel
theorem xa_N_weight_9 : xm_at xP 29 9 = some (9, .iconst 1, 0, 0, 0, 0) := by decide +kernel
theorem xa_N_weight_10 : xm_at xP 29 10 = some (10, .bipush 13, 0, 0, 0, 0) := by decide +kernel
theorem xa_N_weight_12 : xm_at xP 29 12 = some (12, .iload_n 1, 0, 0, 0, 0) := by decide +kernel
theorem xa_N_weight_13 : xm_at xP 29 13 = some (13, .isub, 0, 0, 0, 0) := by decide +kernel
theorem xa_N_weight_14 : xm_at xP 29 14 = some (14, .ishl, 0, 0, 0, 0) := by decide +kernel
theorem xa_N_weight_15 : xm_at xP 29 15 = some (15, .isub, 0, 0, 0, 0) := by decide +kernel
theorem xa_N_weight_16 : xm_at xP 29 16 = some (16, .ireturn, 0, 0, 0, 0) := by decide +kernel
theorem xa_N_everyFibre_0 : xm_at xP 24 0 = some (0, .iconst 1, 0, 0, 0, 0) := by decide +kernel
theorem xa_N_everyFibre_1 : xm_at xP 24 1 = some (1, .aload_n 0, 0, 0, 0, 0) := by decide +kernel
theorem xa_N_everyFibre_2 : xm_at xP 24 2 = some (2, .getfield 37, 1, 1, 0, 0) := by decide +kernel
theorem xa_N_everyFibre_5 : xm_at xP 24 5 = some (5, .ishl, 0, 0, 0, 0) := by decide +kernel
theorem xa_N_everyFibre_6 : xm_at xP 24 6 = some (6, .iconst 1, 0, 0, 0, 0) := by decide +kernel
theorem xa_N_everyFibre_7 : xm_at xP 24 7 = some (7, .isub, 0, 0, 0, 0) := by decide +kernel
theorem xa_N_everyFibre_8 : xm_at xP 24 8 = some (8, .ireturn, 0, 0, 0, 0) := by decide +kernel
theorem xa_N_touching_0 : xm_at xP 34 0 = some (0, .iconst 0, 0, 0, 0, 0) := by decide +kernel
theorem xa_N_touching_1 : xm_at xP 34 1 = some (1, .istore_n 3, 0, 0, 0, 0) := by decide +kernel
theorem xa_N_touching_2 : xm_at xP 34 2 = some (2, .iload_n 3, 0, 0, 0, 0) := by decide +kernel
theorem xa_N_touching_3 : xm_at xP 34 3 = some (3, .aload_n 0, 0, 0, 0, 0) := by decide +kernel
theorem xa_N_touching_4 : xm_at xP 34 4 = some (4, .getfield 37, 1, 1, 0, 0) := by decide +kernel
theorem xa_N_touching_7 : xm_at xP 34 7 = some (7, .if_icmp .ge 39, 46, 0, 0, 0) := by decide +kernel
theorem xa_N_touching_10 : xm_at xP 34 10 = some (10, .iload_n 1, 0, 0, 0, 0) := by decide +kernel
theorem xa_N_touching_11 : xm_at xP 34 11 = some (11, .iload_n 3, 0, 0, 0, 0) := by decide +kernel
theorem xa_N_touching_12 : xm_at xP 34 12 = some (12, .invokestatic 40, 28, 2, 0, 0) := by decide +kernel
theorem xa_N_touching_15 : xm_at xP 34 15 = some (15, .ifCond .eq 25, 40, 0, 0, 0) := by decide +kernel
theorem xa_N_touching_18 : xm_at xP 34 18 = some (18, .aload_n 0, 0, 0, 0, 0) := by decide +kernel
theorem xa_N_touching_19 : xm_at xP 34 19 = some (19, .getfield 15, 1, 2, 0, 0) := by decide +kernel
theorem xa_N_touching_22 : xm_at xP 34 22 = some (22, .iload_n 3, 0, 0, 0, 0) := by decide +kernel
theorem xa_N_touching_23 : xm_at xP 34 23 = some (23, .iaload, 0, 0, 0, 0) := by decide +kernel
theorem xa_N_touching_24 : xm_at xP 34 24 = some (24, .iload_n 2, 0, 0, 0, 0) := by decide +kernel
theorem xa_N_touching_25 : xm_at xP 34 25 = some (25, .if_icmp .eq 13, 38, 0, 0, 0) := by decide +kernel
theorem xa_N_touching_28 : xm_at xP 34 28 = some (28, .aload_n 0, 0, 0, 0, 0) := by decide +kernel
theorem xa_N_touching_29 : xm_at xP 34 29 = some (29, .getfield 19, 1, 3, 0, 0) := by decide +kernel
theorem xa_N_touching_32 : xm_at xP 34 32 = some (32, .iload_n 3, 0, 0, 0, 0) := by decide +kernel
theorem xa_N_touching_33 : xm_at xP 34 33 = some (33, .iaload, 0, 0, 0, 0) := by decide +kernel
theorem xa_N_touching_34 : xm_at xP 34 34 = some (34, .iload_n 2, 0, 0, 0, 0) := by decide +kernel
theorem xa_N_touching_35 : xm_at xP 34 35 = some (35, .if_icmp .ne 5, 40, 0, 0, 0) := by decide +kernel
theorem xa_N_touching_38 : xm_at xP 34 38 = some (38, .iload_n 3, 0, 0, 0, 0) := by decide +kernel
theorem xa_N_touching_39 : xm_at xP 34 39 = some (39, .ireturn, 0, 0, 0, 0) := by decide +kernel
theorem xa_N_touching_40 : xm_at xP 34 40 = some (40, .iinc 3 1, 0, 0, 0, 0) := by decide +kernel
theorem xa_N_touching_43 : xm_at xP 34 43 = some (43, .goto (-41), 2, 0, 0, 0) := by decide +kernel
theorem xa_N_touching_46 : xm_at xP 34 46 = some (46, .iconst (-1), 0, 0, 0, 0) := by decide +kernel
theorem xa_N_touching_47 : xm_at xP 34 47 = some (47, .ireturn, 0, 0, 0, 0) := by decide +kernel
section XL
variable {xs : Nat → Int32} {LS d : Nat} {h : List va_E} {ks : Nat} {fl : Bool} {Q : (Option Value ⊕ Nat) → xm_S → Prop}
/-- bit f of the set -/
def xb (s : Int32) (f : Nat) : Bool := decide (¬ (s &&& ((1 : Int32) <<< (nI f &&& 31))) = 0)
def xz (b : Bool) : Int32 := if b then 1 else 0
theorem xz01 (b : Bool) : xz b = 0 ∨ xz b = 1 := by cases b <;> simp [xz]
theorem xz0 (b : Bool) : xz b = 0 ↔ b = false := by cases b <;> simp [xz]
/-- holds(set, f) -/
theorem c_F_holds {s : Int32} {f : Nat} (k : Q (.inl (some (.int (xz (xb s f))))) (h, ks, fl)) : xG xs LS d 28 (0, xm_entry xP 28 [.int s, .int (nI f)], []) (h, ks, fl) Q := by
  show xG xs LS d 28 (0, [some (.int s), some (.int (nI f))], []) (h, ks, fl) Q
  refine xg_iload_n xa_F_holds_0 rfl ?_
  refine xg_iconst (v := 1) xa_F_holds_1 (by decide) ?_
  refine xg_iload_n xa_F_holds_2 rfl ?_
  refine xg_ishl xa_F_holds_3 rfl ?_
  refine xg_iand xa_F_holds_4 rfl ?_
  refine xg_if_eq xa_F_holds_5 (fun hc => ?_) (fun hc => ?_)
  · have e : xb s f = false := by unfold xb; simp [hc]
    rw [e] at k
    refine xg_iconst (v := 0) xa_F_holds_12 (by decide) ?_
    exact xg_zreturn xa_F_holds_13 (Or.inl rfl) k
  · have e : xb s f = true := by unfold xb; simp [hc]
    rw [e] at k
    refine xg_iconst (v := 1) xa_F_holds_8 (by decide) ?_
    refine xg_goto xa_F_holds_9 ?_
    exact xg_zreturn xa_F_holds_13 (Or.inr rfl) k
end XL
section XL2
variable {xs : Nat → Int32} {LS d : Nat} {h : List va_E} {ks : Nat} {fl : Bool} {Q : (Option Value ⊕ Nat) → xm_S → Prop}
/-- the net's cells -/
def xNet (h : List va_E) (sites fibres : Nat) (fr to ln on bk co wy : Nat → Int32) : Prop :=
  h[1]? = some (.inr (1, [.int (nI sites), .int (nI fibres), .ref 2, .ref 3, .ref 4, .ref 5, .ref 6, .ref 7, .ref 8])) ∧ h[2]? = some (.inl (0, 14, .inl fr)) ∧ h[3]? = some (.inl (0, 14, .inl to)) ∧ h[4]? = some (.inl (0, 14, .inl ln)) ∧ h[5]? = some (.inl (0, 14, .inl on)) ∧ h[6]? = some (.inl (0, 14, .inl bk)) ∧ h[7]? = some (.inl (0, 7, .inl co)) ∧ h[8]? = some (.inl (0, 7, .inl wy))
variable {sites fibres : Nat} {fr to ln on bk co wy : Nat → Int32}
/-- the first of n places from i on -/
def xfst (p : Nat → Bool) : Nat → Nat → Option Nat
  | 0, _ => none
  | n + 1, i => if p i = true then some i else xfst p n (i + 1)
def xo (r : Option Nat) : Int32 := match r with
  | some i => nI i
  | none => -1
/-- fibre f is in the set and ends at the site -/
def xtch (fr to : Nat → Int32) (s site : Int32) (f : Nat) : Bool := xb s f && (decide (fr f = site) || decide (to f = site))
theorem c_N_otherEnd {f : Nat} {site : Int32} (hN : xNet h sites fibres fr to ln on bk co wy) (hf : f < 14) (k : Q (.inl (some (.int (if fr f = site then to f else fr f)))) (h, ks, fl)) : xG xs LS d 35 (0, xm_entry xP 35 [.ref 1, .int (nI f), .int site], []) (h, ks, fl) Q := by
  obtain ⟨h1, h2, h3, h4, h5, h6, h7, h8⟩ := hN
  show xG xs LS d 35 (0, [some (.ref 1), some (.int (nI f)), some (.int site)], []) (h, ks, fl) Q
  refine xg_aload_n xa_N_otherEnd_0 rfl ?_
  refine xg_getfield xa_N_otherEnd_1 (by assumption) rfl ?_
  refine xg_iload_n xa_N_otherEnd_4 rfl ?_
  refine xg_iald_n xa_N_otherEnd_5 (by assumption) rfl (by assumption) (by decide) ?_
  refine xg_iload_n xa_N_otherEnd_6 rfl ?_
  refine xg_icmp_ne xa_N_otherEnd_7 (fun hc => ?_) (fun hc => ?_)
  · rw [if_neg hc] at k
    refine xg_aload_n xa_N_otherEnd_19 rfl ?_
    refine xg_getfield xa_N_otherEnd_20 (by assumption) rfl ?_
    refine xg_iload_n xa_N_otherEnd_23 rfl ?_
    refine xg_iald_n xa_N_otherEnd_24 (by assumption) rfl (by assumption) (by decide) ?_
    exact xg_ireturn xa_N_otherEnd_25 k
  · rw [if_pos hc] at k
    refine xg_aload_n xa_N_otherEnd_10 rfl ?_
    refine xg_getfield xa_N_otherEnd_11 (by assumption) rfl ?_
    refine xg_iload_n xa_N_otherEnd_14 rfl ?_
    refine xg_iald_n xa_N_otherEnd_15 (by assumption) rfl (by assumption) (by decide) ?_
    refine xg_goto xa_N_otherEnd_16 ?_
    exact xg_ireturn xa_N_otherEnd_25 k
theorem c_N_touching {s site : Int32} (hN : xNet h sites fibres fr to ln on bk co wy) (hf : fibres ≤ 14) (k : Q (.inl (some (.int (xo (xfst (xtch fr to s site) fibres 0))))) (h, ks, fl)) : xG xs LS (d + 1) 34 (0, xm_entry xP 34 [.ref 1, .int s, .int site], []) (h, ks, fl) Q := by
  obtain ⟨h1, h2, h3, h4, h5, h6, h7, h8⟩ := hN
  show xG xs LS (d + 1) 34 (0, [some (.ref 1), some (.int s), some (.int site), none], []) (h, ks, fl) Q
  have loop : ∀ n i, i + n = fibres → Q (.inl (some (.int (xo (xfst (xtch fr to s site) n i))))) (h, ks, fl) → xG xs LS (d + 1) 34 (2, [some (.ref 1), some (.int s), some (.int site), some (.int (nI i))], []) (h, ks, fl) Q := by
    intro n
    induction n with
    | zero =>
      intro i hi k
      refine xg_iload_n xa_N_touching_2 rfl ?_
      refine xg_aload_n xa_N_touching_3 rfl ?_
      refine xg_getfield xa_N_touching_4 (by assumption) rfl ?_
      refine xg_icmp_ge xa_N_touching_7 (fun hc => ?_) (fun hc => absurd (nI_le (by omega) (by omega)) hc)
      refine xg_iconst (v := (-1)) xa_N_touching_46 (by decide) ?_
      exact xg_ireturn xa_N_touching_47 k
    | succ n ih =>
      intro i hi k
      have hi14 : i < 14 := by omega
      refine xg_iload_n xa_N_touching_2 rfl ?_
      refine xg_aload_n xa_N_touching_3 rfl ?_
      refine xg_getfield xa_N_touching_4 (by assumption) rfl ?_
      refine xg_icmp_ge xa_N_touching_7 (fun hc => absurd hc (nI_ge (by omega) (by omega))) (fun hc => ?_)
      refine xg_iload_n xa_N_touching_10 rfl ?_
      refine xg_iload_n xa_N_touching_11 rfl ?_
      refine xg_callS1 xa_N_touching_12 ⟨Nat.le_of_ble_eq_true rfl, Nat.le_of_ble_eq_true rfl, rfl⟩ rfl rfl ?_
      refine c_F_holds ?_
      refine xK1_c ?_
      have next : xtch fr to s site i = false → xG xs LS (d + 1) 34 (40, [some (.ref 1), some (.int s), some (.int site), some (.int (nI i))], []) (h, ks, fl) Q := by
        intro e
        refine xg_iinc (L' := [_, _, _, _]) xa_N_touching_40 rfl (xi_inc _) rfl ?_
        refine xg_goto xa_N_touching_43 ?_
        refine ih (i + 1) (by omega) ?_
        unfold xfst at k
        rw [if_neg (by rw [e]; decide)] at k
        exact k
      have found : xtch fr to s site i = true → xG xs LS (d + 1) 34 (38, [some (.ref 1), some (.int s), some (.int site), some (.int (nI i))], []) (h, ks, fl) Q := by
        intro e
        refine xg_iload_n xa_N_touching_38 rfl ?_
        refine xg_ireturn xa_N_touching_39 ?_
        unfold xfst at k
        rw [if_pos e] at k
        exact k
      refine xg_if_eq xa_N_touching_15 (fun hc => next ?_) (fun hc => ?_)
      · unfold xtch
        rw [(xz0 _).mp hc]
        rfl
      · have hb : xb s i = true := by
          cases hb : xb s i with
          | true => rfl
          | false => exact absurd ((xz0 _).mpr hb) hc
        refine xg_aload_n xa_N_touching_18 rfl ?_
        refine xg_getfield xa_N_touching_19 (by assumption) rfl ?_
        refine xg_iload_n xa_N_touching_22 rfl ?_
        refine xg_iald_n xa_N_touching_23 (by assumption) rfl (by assumption) (by decide) ?_
        refine xg_iload_n xa_N_touching_24 rfl ?_
        refine xg_icmp_eq xa_N_touching_25 (fun hc => found ?_) (fun hc2 => ?_)
        · unfold xtch; rw [hb, decide_eq_true hc]; rfl
        · refine xg_aload_n xa_N_touching_28 rfl ?_
          refine xg_getfield xa_N_touching_29 (by assumption) rfl ?_
          refine xg_iload_n xa_N_touching_32 rfl ?_
          refine xg_iald_n xa_N_touching_33 (by assumption) rfl (by assumption) (by decide) ?_
          refine xg_iload_n xa_N_touching_34 rfl ?_
          refine xg_icmp_ne xa_N_touching_35 (fun hc => next ?_) (fun hc => found ?_)
          · unfold xtch; rw [hb, decide_eq_false hc2, decide_eq_false hc]; rfl
          · unfold xtch; rw [hb, decide_eq_true hc]; simp
  refine xg_iconst (v := 0) xa_N_touching_0 (by decide) ?_
  refine xg_istore_n (L' := [_, _, _, _]) xa_N_touching_1 (Nat.le_of_ble_eq_true rfl) rfl ?_
  exact loop fibres 0 (by omega) k
end XL2
