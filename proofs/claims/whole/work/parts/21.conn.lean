/-! 21.conn: a connection's methods. -/
theorem xa_C_ask_0 : xm_at xP 20 0 = some (0, .aload_n 0, 0, 0, 0, 0) := by decide +kernel
theorem xa_C_ask_1 : xm_at xP 20 1 = some (1, .iload_n 1, 0, 0, 0, 0) := by decide +kernel
theorem xa_C_ask_2 : xm_at xP 20 2 = some (2, .putfield 9, 0, 2, 0, 0) := by decide +kernel
theorem xa_C_ask_5 : xm_at xP 20 5 = some (5, .aload_n 0, 0, 0, 0, 0) := by decide +kernel
theorem xa_C_ask_6 : xm_at xP 20 6 = some (6, .iload_n 2, 0, 0, 0, 0) := by decide +kernel
theorem xa_C_ask_7 : xm_at xP 20 7 = some (7, .putfield 15, 0, 3, 0, 0) := by decide +kernel
theorem xa_C_ask_10 : xm_at xP 20 10 = some (10, .aload_n 0, 0, 0, 0, 0) := by decide +kernel
theorem xa_C_ask_11 : xm_at xP 20 11 = some (11, .iload_n 3, 0, 0, 0, 0) := by decide +kernel
theorem xa_C_ask_12 : xm_at xP 20 12 = some (12, .putfield 18, 0, 1, 0, 1) := by decide +kernel
theorem xa_C_ask_15 : xm_at xP 20 15 = some (15, .return_, 0, 0, 0, 0) := by decide +kernel
theorem xa_C_settle_0 : xm_at xP 36 0 = some (0, .aload_n 0, 0, 0, 0, 0) := by decide +kernel
theorem xa_C_settle_1 : xm_at xP 36 1 = some (1, .iload_n 1, 0, 0, 0, 0) := by decide +kernel
theorem xa_C_settle_2 : xm_at xP 36 2 = some (2, .putfield 22, 0, 4, 0, 0) := by decide +kernel
theorem xa_C_settle_5 : xm_at xP 36 5 = some (5, .aload_n 0, 0, 0, 0, 0) := by decide +kernel
theorem xa_C_settle_6 : xm_at xP 36 6 = some (6, .iload_n 2, 0, 0, 0, 0) := by decide +kernel
theorem xa_C_settle_7 : xm_at xP 36 7 = some (7, .putfield 25, 0, 5, 0, 0) := by decide +kernel
theorem xa_C_settle_10 : xm_at xP 36 10 = some (10, .aload_n 0, 0, 0, 0, 0) := by decide +kernel
theorem xa_C_settle_11 : xm_at xP 36 11 = some (11, .iload_n 3, 0, 0, 0, 0) := by decide +kernel
theorem xa_C_settle_12 : xm_at xP 36 12 = some (12, .iload_n 2, 0, 0, 0, 0) := by decide +kernel
theorem xa_C_settle_13 : xm_at xP 36 13 = some (13, .iconst (-1), 0, 0, 0, 0) := by decide +kernel
theorem xa_C_settle_14 : xm_at xP 36 14 = some (14, .ixor, 0, 0, 0, 0) := by decide +kernel
theorem xa_C_settle_15 : xm_at xP 36 15 = some (15, .iand, 0, 0, 0, 0) := by decide +kernel
theorem xa_C_settle_16 : xm_at xP 36 16 = some (16, .putfield 28, 0, 6, 0, 0) := by decide +kernel
theorem xa_C_settle_19 : xm_at xP 36 19 = some (19, .aload_n 0, 0, 0, 0, 0) := by decide +kernel
theorem xa_C_settle_20 : xm_at xP 36 20 = some (20, .iconst 0, 0, 0, 0, 0) := by decide +kernel
theorem xa_C_settle_21 : xm_at xP 36 21 = some (21, .putfield 31, 0, 7, 0, 0) := by decide +kernel
theorem xa_C_settle_24 : xm_at xP 36 24 = some (24, .aload_n 0, 0, 0, 0, 0) := by decide +kernel
theorem xa_C_settle_25 : xm_at xP 36 25 = some (25, .iconst 0, 0, 0, 0, 0) := by decide +kernel
theorem xa_C_settle_26 : xm_at xP 36 26 = some (26, .putfield 34, 0, 8, 0, 0) := by decide +kernel
theorem xa_C_settle_29 : xm_at xP 36 29 = some (29, .return_, 0, 0, 0, 0) := by decide +kernel
theorem xa_C_tick_0 : xm_at xP 4 0 = some (0, .aload_n 0, 0, 0, 0, 0) := by decide +kernel
theorem xa_C_tick_1 : xm_at xP 4 1 = some (1, .iload_n 1, 0, 0, 0, 0) := by decide +kernel
theorem xa_C_tick_2 : xm_at xP 4 2 = some (2, .invokevirtual 40, 5, 2, 0, 0) := by decide +kernel
theorem xa_C_tick_5 : xm_at xP 4 5 = some (5, .ifCond .eq 20, 25, 0, 0, 0) := by decide +kernel
theorem xa_C_tick_8 : xm_at xP 4 8 = some (8, .aload_n 0, 0, 0, 0, 0) := by decide +kernel
theorem xa_C_tick_9 : xm_at xP 4 9 = some (9, .getfield 31, 0, 7, 0, 0) := by decide +kernel
theorem xa_C_tick_12 : xm_at xP 4 12 = some (12, .ifCond .eq 13, 25, 0, 0, 0) := by decide +kernel
theorem xa_C_tick_15 : xm_at xP 4 15 = some (15, .aload_n 0, 0, 0, 0, 0) := by decide +kernel
theorem xa_C_tick_16 : xm_at xP 4 16 = some (16, .dup, 0, 0, 0, 0) := by decide +kernel
theorem xa_C_tick_17 : xm_at xP 4 17 = some (17, .getfield 34, 0, 8, 0, 0) := by decide +kernel
theorem xa_C_tick_20 : xm_at xP 4 20 = some (20, .iconst 1, 0, 0, 0, 0) := by decide +kernel
theorem xa_C_tick_21 : xm_at xP 4 21 = some (21, .iadd, 0, 0, 0, 0) := by decide +kernel
theorem xa_C_tick_22 : xm_at xP 4 22 = some (22, .putfield 34, 0, 8, 0, 0) := by decide +kernel
theorem xa_C_tick_25 : xm_at xP 4 25 = some (25, .return_, 0, 0, 0, 0) := by decide +kernel
theorem xa_C_changeOver_0 : xm_at xP 7 0 = some (0, .aload_n 0, 0, 0, 0, 0) := by decide +kernel
theorem xa_C_changeOver_1 : xm_at xP 7 1 = some (1, .iload_n 1, 0, 0, 0, 0) := by decide +kernel
theorem xa_C_changeOver_2 : xm_at xP 7 2 = some (2, .invokevirtual 44, 8, 2, 0, 0) := by decide +kernel
theorem xa_C_changeOver_5 : xm_at xP 7 5 = some (5, .istore_n 3, 0, 0, 0, 0) := by decide +kernel
theorem xa_C_changeOver_6 : xm_at xP 7 6 = some (6, .aload_n 0, 0, 0, 0, 0) := by decide +kernel
theorem xa_C_changeOver_7 : xm_at xP 7 7 = some (7, .iload_n 1, 0, 0, 0, 0) := by decide +kernel
theorem xa_C_changeOver_8 : xm_at xP 7 8 = some (8, .invokevirtual 40, 5, 2, 0, 0) := by decide +kernel
theorem xa_C_changeOver_11 : xm_at xP 7 11 = some (11, .ifCond .ne 24, 35, 0, 0, 0) := by decide +kernel
theorem xa_C_changeOver_14 : xm_at xP 7 14 = some (14, .aload_n 0, 0, 0, 0, 0) := by decide +kernel
theorem xa_C_changeOver_15 : xm_at xP 7 15 = some (15, .iconst 0, 0, 0, 0, 0) := by decide +kernel
theorem xa_C_changeOver_16 : xm_at xP 7 16 = some (16, .putfield 34, 0, 8, 0, 0) := by decide +kernel
theorem xa_C_changeOver_19 : xm_at xP 7 19 = some (19, .aload_n 0, 0, 0, 0, 0) := by decide +kernel
theorem xa_C_changeOver_20 : xm_at xP 7 20 = some (20, .iload_n 3, 0, 0, 0, 0) := by decide +kernel
theorem xa_C_changeOver_21 : xm_at xP 7 21 = some (21, .ifCond .eq 7, 28, 0, 0, 0) := by decide +kernel
theorem xa_C_changeOver_24 : xm_at xP 7 24 = some (24, .iconst 1, 0, 0, 0, 0) := by decide +kernel
theorem xa_C_changeOver_25 : xm_at xP 7 25 = some (25, .goto 4, 29, 0, 0, 0) := by decide +kernel
theorem xa_C_changeOver_28 : xm_at xP 7 28 = some (28, .iconst 2, 0, 0, 0, 0) := by decide +kernel
theorem xa_C_changeOver_29 : xm_at xP 7 29 = some (29, .putfield 31, 0, 7, 0, 0) := by decide +kernel
theorem xa_C_changeOver_32 : xm_at xP 7 32 = some (32, .goto 31, 63, 0, 0, 0) := by decide +kernel
theorem xa_C_changeOver_35 : xm_at xP 7 35 = some (35, .aload_n 0, 0, 0, 0, 0) := by decide +kernel
theorem xa_C_changeOver_36 : xm_at xP 7 36 = some (36, .getfield 31, 0, 7, 0, 0) := by decide +kernel
theorem xa_C_changeOver_39 : xm_at xP 7 39 = some (39, .ifCond .eq 24, 63, 0, 0, 0) := by decide +kernel
theorem xa_C_changeOver_42 : xm_at xP 7 42 = some (42, .aload_n 0, 0, 0, 0, 0) := by decide +kernel
theorem xa_C_changeOver_43 : xm_at xP 7 43 = some (43, .aload_n 0, 0, 0, 0, 0) := by decide +kernel
theorem xa_C_changeOver_44 : xm_at xP 7 44 = some (44, .getfield 34, 0, 8, 0, 0) := by decide +kernel
theorem xa_C_changeOver_47 : xm_at xP 7 47 = some (47, .iload_n 2, 0, 0, 0, 0) := by decide +kernel
theorem xa_C_changeOver_48 : xm_at xP 7 48 = some (48, .if_icmp .ge 7, 55, 0, 0, 0) := by decide +kernel
theorem xa_C_changeOver_51 : xm_at xP 7 51 = some (51, .iload_n 3, 0, 0, 0, 0) := by decide +kernel
theorem xa_C_changeOver_52 : xm_at xP 7 52 = some (52, .ifCond .ne 7, 59, 0, 0, 0) := by decide +kernel
theorem xa_C_changeOver_55 : xm_at xP 7 55 = some (55, .iconst 0, 0, 0, 0, 0) := by decide +kernel
theorem xa_C_changeOver_56 : xm_at xP 7 56 = some (56, .goto 4, 60, 0, 0, 0) := by decide +kernel
theorem xa_C_changeOver_59 : xm_at xP 7 59 = some (59, .iconst 1, 0, 0, 0, 0) := by decide +kernel
theorem xa_C_changeOver_60 : xm_at xP 7 60 = some (60, .putfield 31, 0, 7, 0, 0) := by decide +kernel
theorem xa_C_changeOver_63 : xm_at xP 7 63 = some (63, .return_, 0, 0, 0, 0) := by decide +kernel
theorem xa_C_workingIsWhole_0 : xm_at xP 5 0 = some (0, .aload_n 0, 0, 0, 0, 0) := by decide +kernel
theorem xa_C_workingIsWhole_1 : xm_at xP 5 1 = some (1, .getfield 25, 0, 5, 0, 0) := by decide +kernel
theorem xa_C_workingIsWhole_4 : xm_at xP 5 4 = some (4, .iload_n 1, 0, 0, 0, 0) := by decide +kernel
theorem xa_C_workingIsWhole_5 : xm_at xP 5 5 = some (5, .iand, 0, 0, 0, 0) := by decide +kernel
theorem xa_C_workingIsWhole_6 : xm_at xP 5 6 = some (6, .ifCond .ne 7, 13, 0, 0, 0) := by decide +kernel
theorem xa_C_workingIsWhole_9 : xm_at xP 5 9 = some (9, .iconst 1, 0, 0, 0, 0) := by decide +kernel
theorem xa_C_workingIsWhole_10 : xm_at xP 5 10 = some (10, .goto 4, 14, 0, 0, 0) := by decide +kernel
theorem xa_C_workingIsWhole_13 : xm_at xP 5 13 = some (13, .iconst 0, 0, 0, 0, 0) := by decide +kernel
theorem xa_C_workingIsWhole_14 : xm_at xP 5 14 = some (14, .ireturn, 0, 0, 0, 1) := by decide +kernel
theorem xa_C_spareIsWhole_0 : xm_at xP 8 0 = some (0, .aload_n 0, 0, 0, 0, 0) := by decide +kernel
theorem xa_C_spareIsWhole_1 : xm_at xP 8 1 = some (1, .getfield 18, 0, 1, 0, 0) := by decide +kernel
theorem xa_C_spareIsWhole_4 : xm_at xP 8 4 = some (4, .ifCond .eq 16, 20, 0, 0, 0) := by decide +kernel
theorem xa_C_spareIsWhole_7 : xm_at xP 8 7 = some (7, .aload_n 0, 0, 0, 0, 0) := by decide +kernel
theorem xa_C_spareIsWhole_8 : xm_at xP 8 8 = some (8, .getfield 28, 0, 6, 0, 0) := by decide +kernel
theorem xa_C_spareIsWhole_11 : xm_at xP 8 11 = some (11, .iload_n 1, 0, 0, 0, 0) := by decide +kernel
theorem xa_C_spareIsWhole_12 : xm_at xP 8 12 = some (12, .iand, 0, 0, 0, 0) := by decide +kernel
theorem xa_C_spareIsWhole_13 : xm_at xP 8 13 = some (13, .ifCond .ne 7, 20, 0, 0, 0) := by decide +kernel
theorem xa_C_spareIsWhole_16 : xm_at xP 8 16 = some (16, .iconst 1, 0, 0, 0, 0) := by decide +kernel
theorem xa_C_spareIsWhole_17 : xm_at xP 8 17 = some (17, .goto 4, 21, 0, 0, 0) := by decide +kernel
theorem xa_C_spareIsWhole_20 : xm_at xP 8 20 = some (20, .iconst 0, 0, 0, 0, 0) := by decide +kernel
theorem xa_C_spareIsWhole_21 : xm_at xP 8 21 = some (21, .ireturn, 0, 0, 0, 1) := by decide +kernel
theorem xa_C_usedOn_0 : xm_at xP 23 0 = some (0, .aload_n 0, 0, 0, 0, 0) := by decide +kernel
theorem xa_C_usedOn_1 : xm_at xP 23 1 = some (1, .getfield 37, 0, 0, 0, 0) := by decide +kernel
theorem xa_C_usedOn_4 : xm_at xP 23 4 = some (4, .ifCond .eq 23, 27, 0, 0, 0) := by decide +kernel
theorem xa_C_usedOn_7 : xm_at xP 23 7 = some (7, .aload_n 0, 0, 0, 0, 0) := by decide +kernel
theorem xa_C_usedOn_8 : xm_at xP 23 8 = some (8, .getfield 22, 0, 4, 0, 0) := by decide +kernel
theorem xa_C_usedOn_11 : xm_at xP 23 11 = some (11, .iload_n 1, 0, 0, 0, 0) := by decide +kernel
theorem xa_C_usedOn_12 : xm_at xP 23 12 = some (12, .if_icmp .ne 15, 27, 0, 0, 0) := by decide +kernel
theorem xa_C_usedOn_15 : xm_at xP 23 15 = some (15, .aload_n 0, 0, 0, 0, 0) := by decide +kernel
theorem xa_C_usedOn_16 : xm_at xP 23 16 = some (16, .getfield 25, 0, 5, 0, 0) := by decide +kernel
theorem xa_C_usedOn_19 : xm_at xP 23 19 = some (19, .aload_n 0, 0, 0, 0, 0) := by decide +kernel
theorem xa_C_usedOn_20 : xm_at xP 23 20 = some (20, .getfield 28, 0, 6, 0, 0) := by decide +kernel
theorem xa_C_usedOn_23 : xm_at xP 23 23 = some (23, .ior, 0, 0, 0, 0) := by decide +kernel
theorem xa_C_usedOn_24 : xm_at xP 23 24 = some (24, .goto 4, 28, 0, 0, 0) := by decide +kernel
theorem xa_C_usedOn_27 : xm_at xP 23 27 = some (27, .iconst 0, 0, 0, 0, 0) := by decide +kernel
theorem xa_C_usedOn_28 : xm_at xP 23 28 = some (28, .ireturn, 0, 0, 0, 0) := by decide +kernel
theorem xa_C_init_0 : xm_at xP 2 0 = some (0, .aload_n 0, 0, 0, 0, 0) := by decide +kernel
theorem xa_C_init_1 : xm_at xP 2 1 = some (1, .invokespecial 3, 0, 0, 0, 1) := by decide +kernel
theorem xa_C_init_4 : xm_at xP 2 4 = some (4, .return_, 0, 0, 0, 0) := by decide +kernel
section XC
variable {xs : Nat → Int32} {LS d : Nat} {h : List va_E} {ks : Nat} {fl : Bool} {Q : (Option Value ⊕ Nat) → xm_S → Prop}
/-- a connection's cell -/
abbrev xcell (t g : Bool) (a b w wk sp on wt : Int32) : va_E := .inr (0, [.int (xz t), .int (xz g), .int a, .int b, .int w, .int wk, .int sp, .int on, .int wt])
theorem xzfit (b : Bool) : xm_fit 1 (.int (xz b)) = true := by cases b <;> rfl
variable {t g : Bool} {a b w wk sp on wt : Int32} {r : Nat}
theorem c_C_usedOn {q : Int32} (hr : h[r]? = some (xcell t g a b w wk sp on wt)) (k : Q (.inl (some (.int (if t = true ∧ w = q then wk ||| sp else 0)))) (h, ks, fl)) : xG xs LS d 23 (0, xm_entry xP 23 [.ref r, .int q], []) (h, ks, fl) Q := by
  show xG xs LS d 23 (0, [some (.ref r), some (.int q)], []) (h, ks, fl) Q
  have no : ¬ (t = true ∧ w = q) → xG xs LS d 23 (27, [some (.ref r), some (.int q)], []) (h, ks, fl) Q := by
    intro hn
    rw [if_neg hn] at k
    refine xg_iconst (v := 0) xa_C_usedOn_27 (by decide) ?_
    exact xg_ireturn xa_C_usedOn_28 k
  refine xg_aload_n xa_C_usedOn_0 rfl ?_
  refine xg_getfield xa_C_usedOn_1 (by assumption) rfl ?_
  refine xg_if_eq xa_C_usedOn_4 (fun hc => no ?_) (fun hc => ?_)
  · rw [(xz0 _).mp hc]
    exact fun q => by cases q.1
  · have ht : t = true := by
      cases t with
      | true => rfl
      | false => exact absurd rfl hc
    refine xg_aload_n xa_C_usedOn_7 rfl ?_
    refine xg_getfield xa_C_usedOn_8 (by assumption) rfl ?_
    refine xg_iload_n xa_C_usedOn_11 rfl ?_
    refine xg_icmp_ne xa_C_usedOn_12 (fun hc => no (fun q => hc q.2)) (fun hc => ?_)
    rw [if_pos ⟨ht, hc⟩] at k
    refine xg_aload_n xa_C_usedOn_15 rfl ?_
    refine xg_getfield xa_C_usedOn_16 (by assumption) rfl ?_
    refine xg_aload_n xa_C_usedOn_19 rfl ?_
    refine xg_getfield xa_C_usedOn_20 (by assumption) rfl ?_
    refine xg_ior xa_C_usedOn_23 rfl ?_
    refine xg_goto xa_C_usedOn_24 ?_
    exact xg_ireturn xa_C_usedOn_28 k
/-- no fibre of x is among c -/
def xwh (x c : Int32) : Bool := decide (x &&& c = 0)
theorem c_C_workingIsWhole {c : Int32} (hr : h[r]? = some (xcell t g a b w wk sp on wt)) (k : Q (.inl (some (.int (xz (xwh wk c))))) (h, ks, fl)) : xG xs LS d 5 (0, xm_entry xP 5 [.ref r, .int c], []) (h, ks, fl) Q := by
  show xG xs LS d 5 (0, [some (.ref r), some (.int c)], []) (h, ks, fl) Q
  refine xg_aload_n xa_C_workingIsWhole_0 rfl ?_
  refine xg_getfield xa_C_workingIsWhole_1 (by assumption) rfl ?_
  refine xg_iload_n xa_C_workingIsWhole_4 rfl ?_
  refine xg_iand xa_C_workingIsWhole_5 rfl ?_
  refine xg_if_ne xa_C_workingIsWhole_6 (fun hc => ?_) (fun hc => ?_)
  · rw [show xwh wk c = false from decide_eq_false hc] at k
    refine xg_iconst (v := 0) xa_C_workingIsWhole_13 (by decide) ?_
    exact xg_zreturn xa_C_workingIsWhole_14 (Or.inl rfl) k
  · rw [show xwh wk c = true from decide_eq_true hc] at k
    refine xg_iconst (v := 1) xa_C_workingIsWhole_9 (by decide) ?_
    refine xg_goto xa_C_workingIsWhole_10 ?_
    exact xg_zreturn xa_C_workingIsWhole_14 (Or.inr rfl) k
theorem c_C_spareIsWhole {c : Int32} (hr : h[r]? = some (xcell t g a b w wk sp on wt)) (k : Q (.inl (some (.int (xz (g && xwh sp c))))) (h, ks, fl)) : xG xs LS d 8 (0, xm_entry xP 8 [.ref r, .int c], []) (h, ks, fl) Q := by
  show xG xs LS d 8 (0, [some (.ref r), some (.int c)], []) (h, ks, fl) Q
  have no : (g && xwh sp c) = false → xG xs LS d 8 (20, [some (.ref r), some (.int c)], []) (h, ks, fl) Q := by
    intro hn
    rw [hn] at k
    refine xg_iconst (v := 0) xa_C_spareIsWhole_20 (by decide) ?_
    exact xg_zreturn xa_C_spareIsWhole_21 (Or.inl rfl) k
  refine xg_aload_n xa_C_spareIsWhole_0 rfl ?_
  refine xg_getfield xa_C_spareIsWhole_1 (by assumption) rfl ?_
  refine xg_if_eq xa_C_spareIsWhole_4 (fun hc => no (by rw [(xz0 _).mp hc]; rfl)) (fun hc => ?_)
  have hg : g = true := by
    cases g with
    | true => rfl
    | false => exact absurd rfl hc
  refine xg_aload_n xa_C_spareIsWhole_7 rfl ?_
  refine xg_getfield xa_C_spareIsWhole_8 (by assumption) rfl ?_
  refine xg_iload_n xa_C_spareIsWhole_11 rfl ?_
  refine xg_iand xa_C_spareIsWhole_12 rfl ?_
  refine xg_if_ne xa_C_spareIsWhole_13 (fun hc => no (by rw [show xwh sp c = false from decide_eq_false hc]; simp)) (fun hc => ?_)
  rw [hg, show xwh sp c = true from decide_eq_true hc] at k
  refine xg_iconst (v := 1) xa_C_spareIsWhole_16 (by decide) ?_
  refine xg_goto xa_C_spareIsWhole_17 ?_
  exact xg_zreturn xa_C_spareIsWhole_21 (Or.inr rfl) k
theorem c_C_ask {x y : Int32} {p : Bool} (hr : h[r]? = some (xcell t g a b w wk sp on wt)) (k : ∀ h', xU h h' r (xcell t p x y w wk sp on wt) → Q (.inl none) (h', ks, false)) : xG xs LS d 20 (0, xm_entry xP 20 [.ref r, .int x, .int y, .int (xz p)], []) (h, ks, fl) Q := by
  show xG xs LS d 20 (0, [some (.ref r), some (.int x), some (.int y), some (.int (xz p))], []) (h, ks, fl) Q
  refine xg_aload_n xa_C_ask_0 rfl ?_
  refine xg_iload_n xa_C_ask_1 rfl ?_
  refine xg_putf (fs' := [_, _, _, _, _, _, _, _, _]) xa_C_ask_2 (by assumption) (Nat.le_of_ble_eq_true rfl) rfl rfl (fun h2 u2 => ?_)
  have hr := u2.2.1
  refine xg_aload_n xa_C_ask_5 rfl ?_
  refine xg_iload_n xa_C_ask_6 rfl ?_
  refine xg_putf (fs' := [_, _, _, _, _, _, _, _, _]) xa_C_ask_7 (by assumption) (Nat.le_of_ble_eq_true rfl) rfl rfl (fun h7 u7 => ?_)
  have hr := u7.2.1
  refine xg_aload_n xa_C_ask_10 rfl ?_
  refine xg_iload_n xa_C_ask_11 rfl ?_
  refine xg_putf (fs' := [_, _, _, _, _, _, _, _, _]) xa_C_ask_12 (by assumption) (Nat.le_of_ble_eq_true rfl) (xzfit _) rfl (fun h12 u12 => ?_)
  exact xg_return xa_C_ask_15 (k _ ((u2.trans u7).trans u12))
theorem c_C_settle {q x y : Int32} (hr : h[r]? = some (xcell t g a b w wk sp on wt)) (k : ∀ h', xU h h' r (xcell t g a b q x (y &&& (x ^^^ (-1))) 0 0) → Q (.inl none) (h', ks, false)) : xG xs LS d 36 (0, xm_entry xP 36 [.ref r, .int q, .int x, .int y], []) (h, ks, fl) Q := by
  show xG xs LS d 36 (0, [some (.ref r), some (.int q), some (.int x), some (.int y)], []) (h, ks, fl) Q
  refine xg_aload_n xa_C_settle_0 rfl ?_
  refine xg_iload_n xa_C_settle_1 rfl ?_
  refine xg_putf (fs' := [_, _, _, _, _, _, _, _, _]) xa_C_settle_2 (by assumption) (Nat.le_of_ble_eq_true rfl) rfl rfl (fun h2 u2 => ?_)
  have hr := u2.2.1
  refine xg_aload_n xa_C_settle_5 rfl ?_
  refine xg_iload_n xa_C_settle_6 rfl ?_
  refine xg_putf (fs' := [_, _, _, _, _, _, _, _, _]) xa_C_settle_7 (by assumption) (Nat.le_of_ble_eq_true rfl) rfl rfl (fun h7 u7 => ?_)
  have hr := u7.2.1
  refine xg_aload_n xa_C_settle_10 rfl ?_
  refine xg_iload_n xa_C_settle_11 rfl ?_
  refine xg_iload_n xa_C_settle_12 rfl ?_
  refine xg_iconst (v := (-1)) xa_C_settle_13 (by decide) ?_
  refine xg_ixor xa_C_settle_14 rfl ?_
  refine xg_iand xa_C_settle_15 rfl ?_
  refine xg_putf (fs' := [_, _, _, _, _, _, _, _, _]) xa_C_settle_16 (by assumption) (Nat.le_of_ble_eq_true rfl) rfl rfl (fun h16 u16 => ?_)
  have hr := u16.2.1
  refine xg_aload_n xa_C_settle_19 rfl ?_
  refine xg_iconst (v := 0) xa_C_settle_20 (by decide) ?_
  refine xg_putf (fs' := [_, _, _, _, _, _, _, _, _]) xa_C_settle_21 (by assumption) (Nat.le_of_ble_eq_true rfl) rfl rfl (fun h21 u21 => ?_)
  have hr := u21.2.1
  refine xg_aload_n xa_C_settle_24 rfl ?_
  refine xg_iconst (v := 0) xa_C_settle_25 (by decide) ?_
  refine xg_putf (fs' := [_, _, _, _, _, _, _, _, _]) xa_C_settle_26 (by assumption) (Nat.le_of_ble_eq_true rfl) rfl rfl (fun h26 u26 => ?_)
  exact xg_return xa_C_settle_29 (k _ ((((u2.trans u7).trans u16).trans u21).trans u26))
theorem c_C_tick {c : Int32} (hr : h[r]? = some (xcell t g a b w wk sp on wt)) (k : ∀ h' f', xU h h' r (xcell t g a b w wk sp on (if xwh wk c = true ∧ ¬ on = 0 then wt + 1 else wt)) → Q (.inl none) (h', ks, f')) : xG xs LS (d + 1) 4 (0, xm_entry xP 4 [.ref r, .int c], []) (h, ks, fl) Q := by
  show xG xs LS (d + 1) 4 (0, [some (.ref r), some (.int c)], []) (h, ks, fl) Q
  have no : ¬ (xwh wk c = true ∧ ¬ on = 0) → xG xs LS (d + 1) 4 (25, [some (.ref r), some (.int c)], []) (h, ks, fl) Q := by
    intro hn
    rw [if_neg hn] at k
    exact xg_return xa_C_tick_25 (k _ _ ⟨rfl, hr, fun _ _ => rfl⟩)
  refine xg_aload_n xa_C_tick_0 rfl ?_
  refine xg_iload_n xa_C_tick_1 rfl ?_
  refine xg_callV1 xa_C_tick_2 ⟨Nat.le_of_ble_eq_true rfl, Nat.le_of_ble_eq_true rfl, rfl⟩ rfl rfl (by assumption) ?_
  refine c_C_workingIsWhole hr ?_
  refine xK1_c ?_
  refine xg_if_eq xa_C_tick_5 (fun hc => no (fun q => by rw [(xz0 _).mp hc] at q; cases q.1)) (fun hc => ?_)
  have hw : xwh wk c = true := by
    cases hw : xwh wk c with
    | true => rfl
    | false => exact absurd ((xz0 _).mpr hw) hc
  refine xg_aload_n xa_C_tick_8 rfl ?_
  refine xg_getfield xa_C_tick_9 (by assumption) rfl ?_
  refine xg_if_eq xa_C_tick_12 (fun hc => no (fun q => q.2 hc)) (fun hc => ?_)
  rw [if_pos ⟨hw, hc⟩] at k
  refine xg_aload_n xa_C_tick_15 rfl ?_
  refine xg_dup_r xa_C_tick_16 ?_
  refine xg_getfield xa_C_tick_17 (by assumption) rfl ?_
  refine xg_iconst (v := 1) xa_C_tick_20 (by decide) ?_
  refine xg_iadd xa_C_tick_21 rfl ?_
  refine xg_putf (fs' := [_, _, _, _, _, _, _, _, _]) xa_C_tick_22 (by assumption) (Nat.le_of_ble_eq_true rfl) rfl rfl (fun h22 u22 => ?_)
  exact xg_return xa_C_tick_25 (k _ _ u22)
/-- on which path it is, and its count, behind a change -/
def xco (g : Bool) (wk sp on wt c hold : Int32) : Int32 × Int32 :=
  if xwh wk c = false then (if (g && xwh sp c) = true then 1 else 2, 0)
  else if on = 0 then (on, wt)
  else (if hold ≤ wt ∨ (g && xwh sp c) = false then 0 else 1, wt)
theorem c_C_changeOver {c hold : Int32} (hr : h[r]? = some (xcell t g a b w wk sp on wt)) (k : ∀ h' f', xU h h' r (xcell t g a b w wk sp (xco g wk sp on wt c hold).1 (xco g wk sp on wt c hold).2) → Q (.inl none) (h', ks, f')) : xG xs LS (d + 1) 7 (0, xm_entry xP 7 [.ref r, .int c, .int hold], []) (h, ks, fl) Q := by
  show xG xs LS (d + 1) 7 (0, [some (.ref r), some (.int c), some (.int hold), none], []) (h, ks, fl) Q
  refine xg_aload_n xa_C_changeOver_0 rfl ?_
  refine xg_iload_n xa_C_changeOver_1 rfl ?_
  refine xg_callV1 xa_C_changeOver_2 ⟨Nat.le_of_ble_eq_true rfl, Nat.le_of_ble_eq_true rfl, rfl⟩ rfl rfl (by assumption) ?_
  refine c_C_spareIsWhole hr ?_
  refine xK1_c ?_
  refine xg_istore_n (L' := [_, _, _, _]) xa_C_changeOver_5 (Nat.le_of_ble_eq_true rfl) rfl ?_
  refine xg_aload_n xa_C_changeOver_6 rfl ?_
  refine xg_iload_n xa_C_changeOver_7 rfl ?_
  refine xg_callV1 xa_C_changeOver_8 ⟨Nat.le_of_ble_eq_true rfl, Nat.le_of_ble_eq_true rfl, rfl⟩ rfl rfl (by assumption) ?_
  refine c_C_workingIsWhole hr ?_
  refine xK1_c ?_
  refine xg_if_ne xa_C_changeOver_11 (fun hc => ?_) (fun hc => ?_)
  · have hw : xwh wk c = true := by
      cases hw : xwh wk c with
      | true => rfl
      | false => exact absurd ((xz0 _).mpr hw) hc
    unfold xco at k
    rw [if_neg (by rw [hw]; decide)] at k
    refine xg_aload_n xa_C_changeOver_35 rfl ?_
    refine xg_getfield xa_C_changeOver_36 (by assumption) rfl ?_
    refine xg_if_eq xa_C_changeOver_39 (fun hc => ?_) (fun hc => ?_)
    · rw [if_pos hc] at k
      exact xg_return xa_C_changeOver_63 (k _ _ ⟨rfl, hr, fun _ _ => rfl⟩)
    · rw [if_neg hc] at k
      have back : (hold ≤ wt ∨ (g && xwh sp c) = false) → xG xs LS (d + 1) 7 (55, [some (.ref r), some (.int c), some (.int hold), some (.int (xz (g && xwh sp c)))], [.ref r]) (h, ks, fl) Q := by
        intro hb
        rw [if_pos hb] at k
        refine xg_iconst (v := 0) xa_C_changeOver_55 (by decide) ?_
        refine xg_goto xa_C_changeOver_56 ?_
        refine xg_putf (fs' := [_, _, _, _, _, _, _, _, _]) xa_C_changeOver_60 (by assumption) (Nat.le_of_ble_eq_true rfl) rfl rfl (fun h60 u60 => ?_)
        exact xg_return xa_C_changeOver_63 (k _ _ u60)
      refine xg_aload_n xa_C_changeOver_42 rfl ?_
      refine xg_aload_n xa_C_changeOver_43 rfl ?_
      refine xg_getfield xa_C_changeOver_44 (by assumption) rfl ?_
      refine xg_iload_n xa_C_changeOver_47 rfl ?_
      refine xg_icmp_ge xa_C_changeOver_48 (fun hc => back (Or.inl hc)) (fun hc2 => ?_)
      refine xg_iload_n xa_C_changeOver_51 rfl ?_
      refine xg_if_ne xa_C_changeOver_52 (fun hc3 => ?_) (fun hc3 => back (Or.inr ((xz0 _).mp hc3)))
      rw [if_neg (fun q => by
        rcases q with q | q
        · exact hc2 q
        · exact hc3 ((xz0 _).mpr q))] at k
      refine xg_iconst (v := 1) xa_C_changeOver_59 (by decide) ?_
      refine xg_putf (fs' := [_, _, _, _, _, _, _, _, _]) xa_C_changeOver_60 (by assumption) (Nat.le_of_ble_eq_true rfl) rfl rfl (fun h60 u60 => ?_)
      exact xg_return xa_C_changeOver_63 (k _ _ u60)
  · unfold xco at k
    rw [if_pos ((xz0 _).mp hc)] at k
    refine xg_aload_n xa_C_changeOver_14 rfl ?_
    refine xg_iconst (v := 0) xa_C_changeOver_15 (by decide) ?_
    refine xg_putf (fs' := [_, _, _, _, _, _, _, _, _]) xa_C_changeOver_16 (by assumption) (Nat.le_of_ble_eq_true rfl) rfl rfl (fun h16 u16 => ?_)
    have hr := u16.2.1
    refine xg_aload_n xa_C_changeOver_19 rfl ?_
    refine xg_iload_n xa_C_changeOver_20 rfl ?_
    refine xg_if_eq xa_C_changeOver_21 (fun hc => ?_) (fun hc => ?_)
    · rw [if_neg (by rw [(xz0 _).mp hc]; decide)] at k
      refine xg_iconst (v := 2) xa_C_changeOver_28 (by decide) ?_
      refine xg_putf (fs' := [_, _, _, _, _, _, _, _, _]) xa_C_changeOver_29 (by assumption) (Nat.le_of_ble_eq_true rfl) rfl rfl (fun h29 u29 => ?_)
      refine xg_goto xa_C_changeOver_32 ?_
      exact xg_return xa_C_changeOver_63 (k _ _ (u16.trans u29))
    · have hs : (g && xwh sp c) = true := by
        cases hs : (g && xwh sp c) with
        | true => rfl
        | false => exact absurd ((xz0 _).mpr hs) hc
      rw [if_pos hs] at k
      refine xg_iconst (v := 1) xa_C_changeOver_24 (by decide) ?_
      refine xg_goto xa_C_changeOver_25 ?_
      refine xg_putf (fs' := [_, _, _, _, _, _, _, _, _]) xa_C_changeOver_29 (by assumption) (Nat.le_of_ble_eq_true rfl) rfl rfl (fun h29 u29 => ?_)
      refine xg_goto xa_C_changeOver_32 ?_
      exact xg_return xa_C_changeOver_63 (k _ _ (u16.trans u29))
end XC
