/-! 63.lay: the class's lay, request, move. -/
theorem xa_F_lay_0 : xm_at xP 21 0 = some (0, .iload_n 2, 0, 0, 0, 0) := by decide +kernel
theorem xa_F_lay_1 : xm_at xP 21 1 = some (1, .istore_n 3, 0, 0, 0, 0) := by decide +kernel
theorem xa_F_lay_2 : xm_at xP 21 2 = some (2, .iload_n 3, 0, 0, 0, 0) := by decide +kernel
theorem xa_F_lay_3 : xm_at xP 21 3 = some (3, .iconst 4, 0, 0, 0, 0) := by decide +kernel
theorem xa_F_lay_4 : xm_at xP 21 4 = some (4, .if_icmp .ge 93, 97, 0, 0, 0) := by decide +kernel
theorem xa_F_lay_7 : xm_at xP 21 7 = some (7, .aload_n 0, 0, 0, 0, 0) := by decide +kernel
theorem xa_F_lay_8 : xm_at xP 21 8 = some (8, .iload_n 3, 0, 0, 0, 0) := by decide +kernel
theorem xa_F_lay_9 : xm_at xP 21 9 = some (9, .invokevirtual 123, 22, 2, 2, 0) := by decide +kernel
theorem xa_F_lay_12 : xm_at xP 21 12 = some (12, .istore 4, 0, 0, 0, 0) := by decide +kernel
theorem xa_F_lay_14 : xm_at xP 21 14 = some (14, .aload_n 1, 0, 0, 0, 0) := by decide +kernel
theorem xa_F_lay_15 : xm_at xP 21 15 = some (15, .getfield 108, 0, 1, 0, 0) := by decide +kernel
theorem xa_F_lay_18 : xm_at xP 21 18 = some (18, .ifCond .eq 23, 41, 0, 0, 0) := by decide +kernel
theorem xa_F_lay_21 : xm_at xP 21 21 = some (21, .aload_n 0, 0, 0, 0, 0) := by decide +kernel
theorem xa_F_lay_22 : xm_at xP 21 22 = some (22, .getfield 10, 2, 0, 0, 0) := by decide +kernel
theorem xa_F_lay_25 : xm_at xP 21 25 = some (25, .iload 4, 0, 0, 0, 0) := by decide +kernel
theorem xa_F_lay_27 : xm_at xP 21 27 = some (27, .aload_n 1, 0, 0, 0, 0) := by decide +kernel
theorem xa_F_lay_28 : xm_at xP 21 28 = some (28, .getfield 92, 0, 2, 0, 0) := by decide +kernel
theorem xa_F_lay_31 : xm_at xP 21 31 = some (31, .aload_n 1, 0, 0, 0, 0) := by decide +kernel
theorem xa_F_lay_32 : xm_at xP 21 32 = some (32, .getfield 101, 0, 3, 0, 0) := by decide +kernel
theorem xa_F_lay_35 : xm_at xP 21 35 = some (35, .invokevirtual 126, 25, 4, 1, 0) := by decide +kernel
theorem xa_F_lay_38 : xm_at xP 21 38 = some (38, .goto 20, 58, 0, 0, 0) := by decide +kernel
theorem xa_F_lay_41 : xm_at xP 21 41 = some (41, .aload_n 0, 0, 0, 0, 0) := by decide +kernel
theorem xa_F_lay_42 : xm_at xP 21 42 = some (42, .getfield 10, 2, 0, 0, 0) := by decide +kernel
theorem xa_F_lay_45 : xm_at xP 21 45 = some (45, .iload 4, 0, 0, 0, 0) := by decide +kernel
theorem xa_F_lay_47 : xm_at xP 21 47 = some (47, .aload_n 1, 0, 0, 0, 0) := by decide +kernel
theorem xa_F_lay_48 : xm_at xP 21 48 = some (48, .getfield 92, 0, 2, 0, 0) := by decide +kernel
theorem xa_F_lay_51 : xm_at xP 21 51 = some (51, .aload_n 1, 0, 0, 0, 0) := by decide +kernel
theorem xa_F_lay_52 : xm_at xP 21 52 = some (52, .getfield 101, 0, 3, 0, 0) := by decide +kernel
theorem xa_F_lay_55 : xm_at xP 21 55 = some (55, .invokevirtual 129, 26, 4, 1, 0) := by decide +kernel
theorem xa_F_lay_58 : xm_at xP 21 58 = some (58, .istore 5, 0, 0, 0, 0) := by decide +kernel
theorem xa_F_lay_60 : xm_at xP 21 60 = some (60, .iload 5, 0, 0, 0, 0) := by decide +kernel
theorem xa_F_lay_62 : xm_at xP 21 62 = some (62, .ifCond .eq 29, 91, 0, 0, 0) := by decide +kernel
theorem xa_F_lay_65 : xm_at xP 21 65 = some (65, .aload_n 1, 0, 0, 0, 0) := by decide +kernel
theorem xa_F_lay_66 : xm_at xP 21 66 = some (66, .iload_n 3, 0, 0, 0, 0) := by decide +kernel
theorem xa_F_lay_67 : xm_at xP 21 67 = some (67, .aload_n 0, 0, 0, 0, 0) := by decide +kernel
theorem xa_F_lay_68 : xm_at xP 21 68 = some (68, .getfield 10, 2, 0, 0, 0) := by decide +kernel
theorem xa_F_lay_71 : xm_at xP 21 71 = some (71, .iload 5, 0, 0, 0, 0) := by decide +kernel
theorem xa_F_lay_73 : xm_at xP 21 73 = some (73, .aload_n 1, 0, 0, 0, 0) := by decide +kernel
theorem xa_F_lay_74 : xm_at xP 21 74 = some (74, .getfield 92, 0, 2, 0, 0) := by decide +kernel
theorem xa_F_lay_77 : xm_at xP 21 77 = some (77, .aload_n 1, 0, 0, 0, 0) := by decide +kernel
theorem xa_F_lay_78 : xm_at xP 21 78 = some (78, .getfield 101, 0, 3, 0, 0) := by decide +kernel
theorem xa_F_lay_81 : xm_at xP 21 81 = some (81, .invokevirtual 129, 26, 4, 1, 0) := by decide +kernel
theorem xa_F_lay_84 : xm_at xP 21 84 = some (84, .iload 5, 0, 0, 0, 0) := by decide +kernel
theorem xa_F_lay_86 : xm_at xP 21 86 = some (86, .invokevirtual 149, 36, 4, 0, 0) := by decide +kernel
theorem xa_F_lay_89 : xm_at xP 21 89 = some (89, .iconst 1, 0, 0, 0, 0) := by decide +kernel
theorem xa_F_lay_90 : xm_at xP 21 90 = some (90, .ireturn, 0, 0, 0, 1) := by decide +kernel
theorem xa_F_lay_91 : xm_at xP 21 91 = some (91, .iinc 3 1, 0, 0, 0, 0) := by decide +kernel
theorem xa_F_lay_94 : xm_at xP 21 94 = some (94, .goto (-92), 2, 0, 0, 0) := by decide +kernel
theorem xa_F_lay_97 : xm_at xP 21 97 = some (97, .iconst 0, 0, 0, 0, 0) := by decide +kernel
theorem xa_F_lay_98 : xm_at xP 21 98 = some (98, .ireturn, 0, 0, 0, 1) := by decide +kernel
theorem xa_F_request_0 : xm_at xP 18 0 = some (0, .aload_n 0, 0, 0, 0, 0) := by decide +kernel
theorem xa_F_request_1 : xm_at xP 18 1 = some (1, .iload_n 1, 0, 0, 0, 0) := by decide +kernel
theorem xa_F_request_2 : xm_at xP 18 2 = some (2, .iload_n 2, 0, 0, 0, 0) := by decide +kernel
theorem xa_F_request_3 : xm_at xP 18 3 = some (3, .invokevirtual 44, 15, 3, 2, 0) := by decide +kernel
theorem xa_F_request_6 : xm_at xP 18 6 = some (6, .aload_n 0, 0, 0, 0, 0) := by decide +kernel
theorem xa_F_request_7 : xm_at xP 18 7 = some (7, .invokevirtual 58, 19, 1, 2, 0) := by decide +kernel
theorem xa_F_request_10 : xm_at xP 18 10 = some (10, .istore 4, 0, 0, 0, 0) := by decide +kernel
theorem xa_F_request_12 : xm_at xP 18 12 = some (12, .iload 4, 0, 0, 0, 0) := by decide +kernel
theorem xa_F_request_14 : xm_at xP 18 14 = some (14, .iconst (-1), 0, 0, 0, 0) := by decide +kernel
theorem xa_F_request_15 : xm_at xP 18 15 = some (15, .if_icmp .ne 11, 26, 0, 0, 0) := by decide +kernel
theorem xa_F_request_18 : xm_at xP 18 18 = some (18, .new 51, 6, 53, 0, 1) := by decide +kernel
theorem xa_F_request_26 : xm_at xP 18 26 = some (26, .aload_n 0, 0, 0, 0, 0) := by decide +kernel
theorem xa_F_request_27 : xm_at xP 18 27 = some (27, .getfield 18, 2, 1, 0, 0) := by decide +kernel
theorem xa_F_request_30 : xm_at xP 18 30 = some (30, .iload 4, 0, 0, 0, 0) := by decide +kernel
theorem xa_F_request_32 : xm_at xP 18 32 = some (32, .aaload, 0, 0, 0, 0) := by decide +kernel
theorem xa_F_request_33 : xm_at xP 18 33 = some (33, .astore 5, 0, 0, 0, 0) := by decide +kernel
theorem xa_F_request_35 : xm_at xP 18 35 = some (35, .aload 5, 0, 0, 0, 0) := by decide +kernel
theorem xa_F_request_37 : xm_at xP 18 37 = some (37, .iload_n 1, 0, 0, 0, 0) := by decide +kernel
theorem xa_F_request_38 : xm_at xP 18 38 = some (38, .iload_n 2, 0, 0, 0, 0) := by decide +kernel
theorem xa_F_request_39 : xm_at xP 18 39 = some (39, .iload_n 3, 0, 0, 0, 0) := by decide +kernel
theorem xa_F_request_40 : xm_at xP 18 40 = some (40, .invokevirtual 62, 20, 4, 0, 0) := by decide +kernel
theorem xa_F_request_43 : xm_at xP 18 43 = some (43, .aload 5, 0, 0, 0, 0) := by decide +kernel
theorem xa_F_request_45 : xm_at xP 18 45 = some (45, .aload_n 0, 0, 0, 0, 0) := by decide +kernel
theorem xa_F_request_46 : xm_at xP 18 46 = some (46, .aload 5, 0, 0, 0, 0) := by decide +kernel
theorem xa_F_request_48 : xm_at xP 18 48 = some (48, .iconst 0, 0, 0, 0, 0) := by decide +kernel
theorem xa_F_request_49 : xm_at xP 18 49 = some (49, .invokevirtual 66, 21, 3, 2, 0) := by decide +kernel
theorem xa_F_request_52 : xm_at xP 18 52 = some (52, .putfield 30, 0, 0, 0, 1) := by decide +kernel
theorem xa_F_request_55 : xm_at xP 18 55 = some (55, .aload 5, 0, 0, 0, 0) := by decide +kernel
theorem xa_F_request_57 : xm_at xP 18 57 = some (57, .getfield 30, 0, 0, 0, 0) := by decide +kernel
theorem xa_F_request_60 : xm_at xP 18 60 = some (60, .ifCond .eq 8, 68, 0, 0, 0) := by decide +kernel
theorem xa_F_request_63 : xm_at xP 18 63 = some (63, .iload 4, 0, 0, 0, 0) := by decide +kernel
theorem xa_F_request_65 : xm_at xP 18 65 = some (65, .goto 4, 69, 0, 0, 0) := by decide +kernel
theorem xa_F_request_68 : xm_at xP 18 68 = some (68, .iconst (-1), 0, 0, 0, 0) := by decide +kernel
theorem xa_F_request_69 : xm_at xP 18 69 = some (69, .ireturn, 0, 0, 0, 0) := by decide +kernel
theorem xa_F_move_0 : xm_at xP 60 0 = some (0, .aload_n 0, 0, 0, 0, 0) := by decide +kernel
theorem xa_F_move_1 : xm_at xP 60 1 = some (1, .iload_n 1, 0, 0, 0, 0) := by decide +kernel
theorem xa_F_move_2 : xm_at xP 60 2 = some (2, .invokevirtual 70, 39, 2, 2, 0) := by decide +kernel
theorem xa_F_move_5 : xm_at xP 60 5 = some (5, .aload_n 0, 0, 0, 0, 0) := by decide +kernel
theorem xa_F_move_6 : xm_at xP 60 6 = some (6, .getfield 18, 2, 1, 0, 0) := by decide +kernel
theorem xa_F_move_9 : xm_at xP 60 9 = some (9, .iload_n 1, 0, 0, 0, 0) := by decide +kernel
theorem xa_F_move_10 : xm_at xP 60 10 = some (10, .aaload, 0, 0, 0, 0) := by decide +kernel
theorem xa_F_move_11 : xm_at xP 60 11 = some (11, .astore_n 2, 0, 0, 0, 0) := by decide +kernel
theorem xa_F_move_12 : xm_at xP 60 12 = some (12, .aload_n 0, 0, 0, 0, 0) := by decide +kernel
theorem xa_F_move_13 : xm_at xP 60 13 = some (13, .aload_n 2, 0, 0, 0, 0) := by decide +kernel
theorem xa_F_move_14 : xm_at xP 60 14 = some (14, .aload_n 2, 0, 0, 0, 0) := by decide +kernel
theorem xa_F_move_15 : xm_at xP 60 15 = some (15, .getfield 98, 0, 4, 0, 0) := by decide +kernel
theorem xa_F_move_18 : xm_at xP 60 18 = some (18, .iconst 1, 0, 0, 0, 0) := by decide +kernel
theorem xa_F_move_19 : xm_at xP 60 19 = some (19, .iadd, 0, 0, 0, 0) := by decide +kernel
theorem xa_F_move_20 : xm_at xP 60 20 = some (20, .invokevirtual 66, 21, 3, 2, 0) := by decide +kernel
theorem xa_F_move_23 : xm_at xP 60 23 = some (23, .ifCond .eq 10, 33, 0, 0, 0) := by decide +kernel
theorem xa_F_move_26 : xm_at xP 60 26 = some (26, .aload_n 2, 0, 0, 0, 0) := by decide +kernel
theorem xa_F_move_27 : xm_at xP 60 27 = some (27, .getfield 98, 0, 4, 0, 0) := by decide +kernel
theorem xa_F_move_30 : xm_at xP 60 30 = some (30, .goto 4, 34, 0, 0, 0) := by decide +kernel
theorem xa_F_move_33 : xm_at xP 60 33 = some (33, .iconst (-1), 0, 0, 0, 0) := by decide +kernel
theorem xa_F_move_34 : xm_at xP 60 34 = some (34, .ireturn, 0, 0, 0, 0) := by decide +kernel
section XY
variable {xs : Nat → Int32} {LS d : Nat} {ks : Nat} {fl : Bool} {h h' : List va_E} {Q : (Option Value ⊕ Nat) → xm_S → Prop}
variable {n m a b : Nat} {e l : Nat → Nat} {cut lk hd : Int32} {K : Nat → xcn} {s : Int32}
/-- the best path among the best path's fibres is that path -/
theorem g_self (G : gG e l m n) {r0 r : Int32} {p : List Nat} (hp : gp e m (xb s) a b p) (e0 : r0 = gm p) (hmin : ∀ q, gp e m (xb s) a b q → gW l m (gm p) ≤ gW l m (gm q))
    (r0' : r = 0 → ¬ ∃ q, gp e m (xb r0) a b q) (r1 : ¬ r = 0 → ∃ q, gp e m (xb r0) a b q ∧ r = gm q ∧ ∀ q', gp e m (xb r0) a b q' → gW l m (gm q) ≤ gW l m (gm q')) : r = r0 := by
  have hm := G.1
  have hin : gp e m (xb r0) a b p := ⟨gw_subp p a b (fun f hf => by rw [e0, gm_b (gp_32 G hp.1) (gp_32 G hp.1 f hf)]; exact decide_eq_true hf) hp.1, hp.2⟩
  have hr : ¬ r = 0 := fun q => r0' q ⟨p, hin⟩
  obtain ⟨q, hq, eq, qmin⟩ := r1 hr
  have sub : ∀ f, f ∈ q → f ∈ p := fun f hf => by
    have := (gw_mem q a b hq.1 f hf).2
    rw [e0, gm_b (gp_32 G hp.1) (gp_32 G hq.1 f hf)] at this
    exact of_decide_eq_true this
  have hqs : gp e m (xb s) a b q := ⟨gw_subp q a b (fun f hf => (gw_mem p a b hp.1 f (sub f hf)).2) hq.1, hq.2⟩
  have w1 := hmin q hqs
  have w2 := qmin p hin
  rw [eq, e0]
  exact gW_inj (l := l) hm (gm_plow G hq.1) (gm_plow G hp.1) (by omega)
theorem g_and_not (x : Int32) : x &&& (x ^^^ (-1)) = 0 := by
  refine xb_ext (fun f hf => ?_)
  rw [xb_and _ _ hf, xb_not _ hf, xb_0]
  cases xb x f <;> rfl
theorem c_F_lay {c w0 : Nat} {t g : Bool} {w wk sp on ct : Int32} {Fw : Nat → Option (Int32 × Int32)} (G : gG e l m n) (hF : xFc h n m e l cut lk hd K) (hc : c < 12) (hK : K c = (t, g, nI a, nI b, w, wk, sp, on, ct)) (ha : a < n) (hb : b < n) (hab : ¬ a = b) (hw0 : w0 ≤ 4)
    (hfw : ∀ w, w < 4 → Fw w = xfind l m (xPL e m ((xbt m - 1) &&& (xbrd cut lk K (nI w) 12 ^^^ (-1))) a b) g)
    (k0 : xlay Fw (4 - w0) w0 = none → ∀ h' fl', xFc h' n m e l cut lk hd K → xS h h' 0 22 → Q (.inl (some (.int 0))) (h', ks, fl'))
    (k1 : ∀ w wk sp, xlay Fw (4 - w0) w0 = some (w, wk, sp) → ∀ h' fl', xFc h' n m e l cut lk hd (xup K c (t, g, nI a, nI b, nI w, wk, sp, 0, 0)) → xS h h' 0 22 → Q (.inl (some (.int 1))) (h', ks, fl')) :
    xG xs LS (d + 4) 21 (0, xm_entry xP 21 [.ref 0, .ref (10 + c), .int (nI w0)], []) (h, ks, fl) Q := by
  show xG xs LS (d + 4) 21 (0, [some (.ref 0), some (.ref (10 + c)), some (.int (nI w0)), none, none, none], []) (h, ks, fl) Q
  have hm := G.1
  have h7 := G.2.1
  have hsd : ∀ f, f < m → gsr e f < 7 ∧ gds e f < 7 := fun f hf => by have := G.2.2 f hf; exact ⟨by show e (2 * f) < 7; omega, by show e (2 * f + 1) < 7; omega⟩
  have loop : ∀ j i h1 fl' j4 j5, i + j = 4 → xlay Fw j i = xlay Fw (4 - w0) w0 → xFc h1 n m e l cut lk hd K → xS h h1 0 22 → xG xs LS (d + 4) 21 (2, [some (.ref 0), some (.ref (10 + c)), some (.int (nI w0)), some (.int (nI i)), j4, j5], []) (h1, ks, fl') Q := by
    intro j
    induction j with
    | zero =>
      intro i h1 fl' j4 j5 hi hl hF hS
      have ei : i = 4 := by omega
      subst ei
      refine xg_iload_n xa_F_lay_2 rfl ?_
      refine xg_iconst (v := 4) xa_F_lay_3 (by decide) ?_
      refine xg_icmp_ge xa_F_lay_4 (fun c4 => ?_) (fun c4 => absurd (by decide) c4)
      refine xg_iconst (v := 0) xa_F_lay_97 (by decide) ?_
      refine xg_zreturn xa_F_lay_98 (Or.inl rfl) ?_
      exact k0 hl.symm _ _ hF hS
    | succ j ih =>
      intro i h1 fl' j4 j5 hi hl hF hS
      obtain ⟨f0, ⟨on, bk, co, wy, fN⟩, ⟨fa, f9, fj⟩, fK⟩ := id hF
      obtain ⟨f1, f2, f3, f4, f5, f6, f7, f8⟩ := id fN
      have hcc := fK c hc
      rw [hK] at hcc
      refine xg_iload_n xa_F_lay_2 rfl ?_
      refine xg_iconst (v := 4) xa_F_lay_3 (by decide) ?_
      refine xg_icmp_ge xa_F_lay_4 (fun c => absurd c (show ¬ nI 4 ≤ nI i from nI_ge (by omega) (by omega))) (fun _ => ?_)
      refine xg_aload_n xa_F_lay_7 rfl ?_
      refine xg_iload_n xa_F_lay_8 rfl ?_
      refine xg_callV1 xa_F_lay_9 ⟨Nat.le_of_ble_eq_true rfl, Nat.le_of_ble_eq_true rfl, rfl⟩ rfl rfl (by assumption) ?_
      refine c_F_freeOn hF ?_
      refine xK1_c ?_
      have hfi := hfw i (by omega)
      rw [xlay_s] at hl
      generalize (xbt m - 1) &&& (xbrd cut lk K (nI i) 12 ^^^ (-1)) = s at *
      have next : ∀ h2 fl' j4 j5, Fw i = none → xFc h2 n m e l cut lk hd K → xS h h2 0 22 → xG xs LS (d + 4) 21 (91, [some (.ref 0), some (.ref (10 + c)), some (.int (nI w0)), some (.int (nI i)), j4, j5], []) (h2, ks, fl') Q := by
        intro h2 fl' j4 j5 hnone hF2 hS2
        rw [hnone] at hl
        refine xg_iinc (L' := [_, _, _, _, _, _]) xa_F_lay_91 rfl (xi_inc _) rfl ?_
        refine xg_goto xa_F_lay_94 ?_
        exact ih (i + 1) h2 _ _ _ (by omega) hl hF2 hS2
      have found : ∀ h2 fl' (T : Int32), ¬ T = 0 → xFc h2 n m e l cut lk hd K → xS h h2 0 22 → (∀ r, (r = 0 → ¬ ∃ p, gp e m (xb T) a b p) → (¬ r = 0 → ∃ p, gp e m (xb T) a b p ∧ r = gm p ∧ ∀ q, gp e m (xb T) a b q → gW l m (gm p) ≤ gW l m (gm q)) → Fw i = some (r, T &&& (r ^^^ (-1)))) → xG xs LS (d + 4) 21 (65, [some (.ref 0), some (.ref (10 + c)), some (.int (nI w0)), some (.int (nI i)), some (.int s), some (.int T)], []) (h2, ks, fl') Q := by
        intro h2 fl' T hT hF2 hS2 hr
        have hF20 := hF2
        obtain ⟨f0, ⟨on', bk', co', wy', fN⟩, ⟨fa, f9, fj⟩, fK⟩ := id hF2
        obtain ⟨f1, -, -, -, -, -, -, -⟩ := id fN
        have hcc := fK c hc
        rw [hK] at hcc
        refine xg_aload_n xa_F_lay_65 rfl ?_
        refine xg_iload_n xa_F_lay_66 rfl ?_
        refine xg_aload_n xa_F_lay_67 rfl ?_
        refine xg_getfield xa_F_lay_68 (by assumption) rfl ?_
        refine xg_iload xa_F_lay_71 rfl ?_
        refine xg_aload_n xa_F_lay_73 rfl ?_
        refine xg_getfield xa_F_lay_74 (by assumption) rfl ?_
        refine xg_aload_n xa_F_lay_77 rfl ?_
        refine xg_getfield xa_F_lay_78 (by assumption) rfl ?_
        refine xg_callV1 xa_F_lay_81 ⟨Nat.le_of_ble_eq_true rfl, Nat.le_of_ble_eq_true rfl, rfl⟩ rfl rfl (by assumption) ?_
        refine c_N_bestPath (src := gsr e) (dst := gds e) fN hm h7 (by omega) hsd (by omega) (by omega) (fun h3 f3 hN3 hS3 => xK1_d ?_)
        obtain ⟨p0, p1⟩ := g_path (on := on') (bk := bk') (co := co') (wy := wy') (s := T) G ha hb hab
        have hx := hr _ p0 (fun q => by obtain ⟨p, z1, z2, _, z4⟩ := p1 q; exact ⟨p, z1, z2, z4⟩)
        generalize (xbp (gsr e) (gds e) (gln l) n m on' bk' co' wy' T a).2 b = r at *
        have hF3 := xFc_net hF20 ⟨_, _, _, _, hN3⟩ (hS3.up (by omega) (by omega))
        have hcc3 := hF3.2.2.2 c hc
        rw [hK] at hcc3
        refine xg_iload xa_F_lay_84 rfl ?_
        refine xg_callV0 xa_F_lay_86 ⟨Nat.le_of_ble_eq_true rfl, Nat.le_of_ble_eq_true rfl, rfl⟩ rfl rfl (by assumption) ?_
        refine c_C_settle hcc3 (fun h4 u4 => xK0_d ?_)
        have hF4 := xFc_con (k := (t, g, nI a, nI b, nI i, r, T &&& (r ^^^ (-1)), 0, 0)) hF3 hc u4
        rw [hx] at hl
        refine xg_iconst (v := 1) xa_F_lay_89 (by decide) ?_
        exact xg_zreturn xa_F_lay_90 (Or.inr rfl) (k1 _ _ _ hl.symm _ _ hF4 ((hS2.tr (hS3.up (by omega) (by omega))).tr (u4.toS (by omega) (by omega))))
      refine xg_istore (L' := [_, _, _, _, _, _]) xa_F_lay_12 (Nat.le_of_ble_eq_true rfl) rfl ?_
      refine xg_aload_n xa_F_lay_14 rfl ?_
      refine xg_getfield xa_F_lay_15 (by assumption) rfl ?_
      refine xg_if_eq xa_F_lay_18 (fun cg => ?_) (fun cg => ?_)
      · have hg : g = false := (xz0 _).mp cg
        subst hg
        refine xg_aload_n xa_F_lay_41 rfl ?_
        refine xg_getfield xa_F_lay_42 (by assumption) rfl ?_
        refine xg_iload xa_F_lay_45 rfl ?_
        refine xg_aload_n xa_F_lay_47 rfl ?_
        refine xg_getfield xa_F_lay_48 (by assumption) rfl ?_
        refine xg_aload_n xa_F_lay_51 rfl ?_
        refine xg_getfield xa_F_lay_52 (by assumption) rfl ?_
        refine xg_callV1 xa_F_lay_55 ⟨Nat.le_of_ble_eq_true rfl, Nat.le_of_ble_eq_true rfl, rfl⟩ rfl rfl (by assumption) ?_
        refine c_N_bestPath (src := gsr e) (dst := gds e) fN hm h7 (by omega) hsd (by omega) (by omega) (fun h3 f3 hN3 hS3 => xK1_d ?_)
        obtain ⟨p0, p1⟩ := g_path (on := on) (bk := bk) (co := co) (wy := wy) (s := s) G ha hb hab
        generalize (xbp (gsr e) (gds e) (gln l) n m on bk co wy s a).2 b = r at *
        have hx := g_find1 G ha hb hab p0 (fun q => by obtain ⟨p, z1, z2, _, z4⟩ := p1 q; exact ⟨p, z1, z2, z4⟩)
        rw [hx] at hfi
        have hF3 := xFc_net hF ⟨_, _, _, _, hN3⟩ (hS3.up (by omega) (by omega))
        refine xg_istore (L' := [_, _, _, _, _, _]) xa_F_lay_58 (Nat.le_of_ble_eq_true rfl) rfl ?_
        refine xg_iload xa_F_lay_60 rfl ?_
        refine xg_if_eq xa_F_lay_62 (fun c62 => ?_) (fun c62 => ?_)
        · rw [if_pos c62] at hfi
          exact next h3 _ _ _ hfi hF3 (hS.tr (hS3.up (by omega) (by omega)))
        · rw [if_neg c62] at hfi
          obtain ⟨p, z1, z2, _, z4⟩ := p1 c62
          refine found h3 _ r c62 hF3 (hS.tr (hS3.up (by omega) (by omega))) (fun r' q0 q1 => ?_)
          have := g_self G z1 z2 z4 q0 q1
          rw [this, g_and_not]
          exact hfi
      · have hg : g = true := xz1 cg
        subst hg
        refine xg_aload_n xa_F_lay_21 rfl ?_
        refine xg_getfield xa_F_lay_22 (by assumption) rfl ?_
        refine xg_iload xa_F_lay_25 rfl ?_
        refine xg_aload_n xa_F_lay_27 rfl ?_
        refine xg_getfield xa_F_lay_28 (by assumption) rfl ?_
        refine xg_aload_n xa_F_lay_31 rfl ?_
        refine xg_getfield xa_F_lay_32 (by assumption) rfl ?_
        refine xg_callV1 xa_F_lay_35 ⟨Nat.le_of_ble_eq_true rfl, Nat.le_of_ble_eq_true rfl, rfl⟩ rfl rfl (by assumption) ?_
        refine c_N_bestPair (src := gsr e) (dst := gds e) fN hm h7 (by omega) hsd (by omega) (by omega) (fun h3 f3 hN3 hS3 => xK1_d ?_)
        obtain ⟨p0, p1⟩ := g_pair (on := on) (bk := bk) (co := co) (wy := wy) (s := s) G ha hb hab
        generalize xbr (gsr e) (gds e) (gln l) n m on bk co wy s a b = T at *
        have hF3 := xFc_net hF hN3 (hS3.up (by omega) (by omega))
        refine xg_goto xa_F_lay_38 ?_
        refine xg_istore (L' := [_, _, _, _, _, _]) xa_F_lay_58 (Nat.le_of_ble_eq_true rfl) rfl ?_
        refine xg_iload xa_F_lay_60 rfl ?_
        refine xg_if_eq xa_F_lay_62 (fun c62 => ?_) (fun c62 => ?_)
        · have hx := g_find2 (r := 0) G ha hb hab p0 p1 (fun q => absurd c62 q) (fun q => absurd c62 q)
          rw [hx, if_pos c62] at hfi
          exact next h3 _ _ _ hfi hF3 (hS.tr (hS3.up (by omega) (by omega)))
        · refine found h3 _ T c62 hF3 (hS.tr (hS3.up (by omega) (by omega))) (fun r' q0 q1 => ?_)
          have hx := g_find2 G ha hb hab p0 p1 (fun _ => q0) (fun _ => q1)
          rw [hx, if_neg c62] at hfi
          exact hfi
  refine xg_iload_n xa_F_lay_0 rfl ?_
  refine xg_istore_n (L' := [_, _, _, _, _, _]) xa_F_lay_1 (Nat.le_of_ble_eq_true rfl) rfl ?_
  exact loop (4 - w0) w0 h _ _ _ (by omega) rfl hF xS.rf
end XY
section XZ
variable {xs : Nat → Int32} {LS d : Nat} {ks : Nat} {fl : Bool} {h h' : List va_E} {Q : (Option Value ⊕ Nat) → xm_S → Prop}
variable {Mc : Int32} {Mn : Nat} {Mm : Nat} {Mh : Int32} {Mp : Nat} {Mfw : Int32} {Mfs : Int32} {Me : Nat → Nat} {Ml : Nat → Nat} {Mbr : Nat → Bool} {Mlk : Nat → Bool} {Mt : Nat → Bool} {Mg : Nat → Bool} {Ma : Nat → Nat} {Mb : Nat → Nat} {Mw : Nat → Nat} {Mwk : Nat → Int32} {Msp : Nat → Int32} {Mon : Nat → Int32} {Mct : Nat → Int32} {MS : Nat → Int32} {MZ : Nat → Int32} {MA : Nat → Nat} {MN : Nat → Nat}
/-- the class holds what the model holds -/
def xCS (h : List va_E) (Mn Mm : Nat) (Mh : Int32) (Me Ml : Nat → Nat) (Mbr Mlk Mt Mg : Nat → Bool) (Ma Mb Mw : Nat → Nat) (Mwk Msp Mon Mct : Nat → Int32) : Prop := ∃ cut lk K, xFc h Mn Mm Me Ml cut lk Mh K ∧ xRel cut lk K Mm Mbr Mlk Mt Mg Ma Mb Mw Mwk Msp Mon Mct
abbrev xInv (Mn Mm : Nat) (Mh : Int32) (Me Ml : Nat → Nat) (Mt Mg : Nat → Bool) (Ma Mb Mw : Nat → Nat) (Mwk Msp Mon Mct : Nat → Int32) : Prop := xIn Mn Mm Mh Me Ml Mt Mg Ma Mb Mw Mwk Msp Mon Mct
theorem r_unu {K : Nat → xcn} (hK : ∀ c, c < 12 → (K c).1 = Mt c) : ∀ k i, i + k = 12 → xfst (fun c => !(K c).1) k i = if xunu Mt k i = 12 then none else some (xunu Mt k i) := by
  intro k
  induction k with
  | zero => intro i hi; unfold xunu xfst; rw [if_pos (by omega)]
  | succ k ih =>
    intro i hi
    unfold xunu xfst
    rw [hK i (by omega)]
    by_cases c : Mt i = true
    · rw [if_neg (by rw [c]; decide), if_pos c]
      exact ih (i + 1) (by omega)
    · rw [if_pos (by rw [show Mt i = false by simpa using c]; rfl), if_neg c, if_neg (by omega)]
theorem xunu_f (t : Nat → Bool) : ∀ k i, ¬ xunu t k i = i + k → t (xunu t k i) = false ∧ i ≤ xunu t k i := by
  intro k
  induction k with
  | zero => intro i h; exact absurd rfl h
  | succ k ih =>
    intro i h
    unfold xunu at h ⊢
    by_cases c : t i = true
    · rw [if_pos c] at h ⊢
      have := ih (i + 1) (by omega)
      exact ⟨this.1, by omega⟩
    · rw [if_neg c]
      exact ⟨by simpa using c, Nat.le_refl _⟩
theorem c_F_request {a b : Int32} {pr : Bool} (I : xIn Mn Mm Mh Me Ml Mt Mg Ma Mb Mw Mwk Msp Mon Mct) (hC : xCS h Mn Mm Mh Me Ml Mbr Mlk Mt Mg Ma Mb Mw Mwk Msp Mon Mct)
    (k1 : cd_request Mn Mt a b = 1 → Q (.inr h.length) (h ++ [.inr (5, [])], ks + 6, true)) (k2 : cd_request Mn Mt a b = 2 → Q (.inr h.length) (h ++ [.inr (4, [])], ks + 6, true)) (k3 : cd_request Mn Mt a b = 3 → Q (.inr h.length) (h ++ [.inr (6, [])], ks + 6, true))
    (k0 : cd_request Mn Mt a b = 0 → ∀ x y c h' fl', x < Mn → y < Mn → ¬ x = y → a = nI x → b = nI y → c = xunu Mt 12 0 → c < 12 →
      (xlay (xfw Mm Me Ml Mbr Mlk Mt Mw Mwk Msp x y pr) 4 0 = none → xCS h' Mn Mm Mh Me Ml Mbr Mlk Mt Mg Ma Mb Mw Mwk Msp Mon Mct → xS h h' 0 22 → Q (.inl (some (.int (-1)))) (h', ks, fl')) ∧
      (∀ w wk sp, xlay (xfw Mm Me Ml Mbr Mlk Mt Mw Mwk Msp x y pr) 4 0 = some (w, wk, sp) → xCS h' Mn Mm Mh Me Ml Mbr Mlk (xup Mt c true) (xup Mg c pr) (xup Ma c x) (xup Mb c y) (xup Mw c w) (xup Mwk c wk) (xup Msp c sp) (xup Mon c 0) (xup Mct c 0) → xS h h' 0 22 → Q (.inl (some (.int (nI c)))) (h', ks, fl'))) :
    xG xs LS (d + 6) 18 (0, xm_entry xP 18 [.ref 0, .int a, .int b, .int (xz pr)], []) (h, ks, true) Q := by
  show xG xs LS (d + 6) 18 (0, [some (.ref 0), some (.int a), some (.int b), some (.int (xz pr)), none, none], []) (h, ks, true) Q
  obtain ⟨cut, lk, K, hF, R⟩ := hC
  have hwt : ∀ c, c < 12 → Mt c = true → Mw c < 4 := fun c hc ht => (I.2.2.2 c hc ht).2.2.2.1
  obtain ⟨G, hn2, hE, I⟩ := I
  have hm := G.1
  have h7 := G.2.1
  obtain ⟨f0, ⟨on, bk, co, wy, fN⟩, ⟨fa, f9, fj⟩, fK⟩ := id hF
  obtain ⟨f1, f2, f3, f4, f5, f6, f7, f8⟩ := id fN
  unfold cd_request at k1 k2 k3 k0
  refine xg_aload_n xa_F_request_0 rfl ?_
  refine xg_iload_n xa_F_request_1 rfl ?_
  refine xg_iload_n xa_F_request_2 rfl ?_
  refine xg_cVT xa_F_request_3 ⟨Nat.le_of_ble_eq_true rfl, Nat.le_of_ble_eq_true rfl, rfl⟩ rfl rfl (by assumption) ?_
  refine c_F_requireTwoSites hF (fun q => ?_) (fun q1 q2 => ?_) (fun q1 q2 => ?_)
  · exact xKX_up (xlast _ _) (by decide +kernel) (by decide +kernel) (k1 (if_pos q))
  · exact xKX_up (xlast _ _) (by decide +kernel) (by decide +kernel) (k2 (by rw [if_neg q1, if_pos q2]))
  · refine xKX_n ?_
    rw [if_neg q1, if_neg q2] at k3 k0
    clear k1 k2
    refine xg_aload_n xa_F_request_6 rfl ?_
    refine xg_callV1 xa_F_request_7 ⟨Nat.le_of_ble_eq_true rfl, Nat.le_of_ble_eq_true rfl, rfl⟩ rfl rfl (by assumption) ?_
    refine c_F_leastNotThere hF ?_
    refine xK1_c ?_
    rw [r_unu R.2.2.1 12 0 (by omega)]
    by_cases cu : xunu Mt 12 0 = 12
    · rw [if_pos cu] at k3 ⊢
      refine xg_istore (L' := [_, _, _, _, _, _]) xa_F_request_10 (Nat.le_of_ble_eq_true rfl) rfl ?_
      refine xg_iload xa_F_request_12 rfl ?_
      refine xg_iconst (v := (-1)) xa_F_request_14 (by decide) ?_
      refine xg_icmp_ne xa_F_request_15 (fun c => absurd rfl c) (fun _ => ?_)
      refine xg_throw xa_F_request_18 (Nat.le_of_ble_eq_true rfl) (by decide +kernel) (by omega) ?_
      exact k3 rfl
    · rw [if_neg cu] at k0 ⊢
      have hcl : xunu Mt 12 0 < 12 := by have := xunu_le Mt 12 0; omega
      have hcf := (xunu_f Mt 12 0 (by omega)).1
      have qa : xnS Mn a = false := by
        cases z : xnS Mn a with
        | false => rfl
        | true => exact absurd (Or.inl z) q1
      have qb : xnS Mn b = false := by
        cases z : xnS Mn b with
        | false => rfl
        | true => exact absurd (Or.inr z) q1
      obtain ⟨x, hx, rfl⟩ := xi_s (by omega) qa
      obtain ⟨y, hy, rfl⟩ := xi_s (by omega) qb
      have hxy : ¬ x = y := fun z => q2 (by rw [z])
      have kk := fun h' fl' => k0 rfl x y _ h' fl' hx hy hxy rfl rfl rfl hcl
      clear k0 k3
      generalize xunu Mt 12 0 = c at *
      show xG xs LS (d + 6) 18 (10, [some (.ref 0), some (.int (nI x)), some (.int (nI y)), some (.int (xz pr)), none, none], [.int (nI c)]) (h, ks, true) Q
      have hfc := fj c hcl
      have hcc := fK c hcl
      have hKf : (K c).1 = false := by rw [R.2.2.1 c hcl]; exact hcf
      refine xg_istore (L' := [_, _, _, _, _, _]) xa_F_request_10 (Nat.le_of_ble_eq_true rfl) rfl ?_
      refine xg_iload xa_F_request_12 rfl ?_
      refine xg_iconst (v := (-1)) xa_F_request_14 (by decide) ?_
      refine xg_icmp_ne xa_F_request_15 (fun _ => ?_) (fun z => absurd z (nI_m1 (by omega)))
      refine xg_aload_n xa_F_request_26 rfl ?_
      refine xg_getfield xa_F_request_27 (by assumption) rfl ?_
      refine xg_iload xa_F_request_30 rfl ?_
      refine xg_aald_n xa_F_request_32 (by assumption) rfl (by assumption) (by decide) (by assumption) ?_
      refine xg_astore (L' := [_, _, _, _, _, _]) xa_F_request_33 (Nat.le_of_ble_eq_true rfl) rfl ?_
      refine xg_aload xa_F_request_35 rfl ?_
      refine xg_iload_n xa_F_request_37 rfl ?_
      refine xg_iload_n xa_F_request_38 rfl ?_
      refine xg_iload_n xa_F_request_39 rfl ?_
      refine xg_callV0 xa_F_request_40 ⟨Nat.le_of_ble_eq_true rfl, Nat.le_of_ble_eq_true rfl, rfl⟩ rfl rfl (by assumption) ?_
      refine c_C_ask hcc (fun h2 u2 => xK0_d ?_)
      have hF2 := xFc_con (k := (false, pr, nI x, nI y, (K c).2.2.2.2.1, (K c).2.2.2.2.2.1, (K c).2.2.2.2.2.2.1, (K c).2.2.2.2.2.2.2.1, (K c).2.2.2.2.2.2.2.2)) hF hcl (by rw [← hKf]; exact u2)
      have R2 : xRel cut lk (xup K c (false, pr, nI x, nI y, (K c).2.2.2.2.1, (K c).2.2.2.2.2.1, (K c).2.2.2.2.2.2.1, (K c).2.2.2.2.2.2.2.1, (K c).2.2.2.2.2.2.2.2)) Mm Mbr Mlk Mt Mg Ma Mb Mw Mwk Msp Mon Mct := by
        obtain ⟨r1, r2, r3, r4⟩ := R
        refine ⟨r1, r2, fun j hj => ?_, fun j hj ht => ?_⟩
        · by_cases z : j = c
          · rw [z, xup_s, hcf]
          · rw [xup_n _ _ z]; exact r3 j hj
        · have z : ¬ j = c := fun z => by rw [z, hcf] at ht; cases ht
          rw [xup_n _ _ z]
          exact r4 j hj ht
      generalize hK2 : xup K c (false, pr, nI x, nI y, (K c).2.2.2.2.1, (K c).2.2.2.2.2.1, (K c).2.2.2.2.2.2.1, (K c).2.2.2.2.2.2.2.1, (K c).2.2.2.2.2.2.2.2) = K2 at *
      have hK2c : K2 c = (false, pr, nI x, nI y, (K c).2.2.2.2.1, (K c).2.2.2.2.2.1, (K c).2.2.2.2.2.2.1, (K c).2.2.2.2.2.2.2.1, (K c).2.2.2.2.2.2.2.2) := by rw [← hK2, xup_s]
      have f0' := hF2.1
      refine xg_aload xa_F_request_43 rfl ?_
      refine xg_aload_n xa_F_request_45 rfl ?_
      refine xg_aload xa_F_request_46 rfl ?_
      refine xg_iconst (v := 0) xa_F_request_48 (by decide) ?_
      refine xg_callV1 xa_F_request_49 ⟨Nat.le_of_ble_eq_true rfl, Nat.le_of_ble_eq_true rfl, rfl⟩ rfl rfl (by assumption) ?_
      refine c_F_lay (w0 := 0) (Fw := xfw Mm Me Ml Mbr Mlk Mt Mw Mwk Msp x y pr) G hF2 hcl hK2c hx hy hxy (by omega) (fun w hw => by rw [r_free hm hwt R2]) (fun hl h3 f3 hF3 hS3 => xK1_d ?_) (fun w wk sp hl h3 f3 hF3 hS3 => xK1_d ?_)
      · have hc3 := hF3.2.2.2 c hcl
        rw [hK2c] at hc3
        refine xg_putf (fs' := [_, _, _, _, _, _, _, _, _]) xa_F_request_52 (by assumption) (Nat.le_of_ble_eq_true rfl) rfl rfl (fun h52 u52 => ?_)
        have hc4 := u52.2.1
        have hF4 := xFc_con (k := (false, pr, nI x, nI y, (K c).2.2.2.2.1, (K c).2.2.2.2.2.1, (K c).2.2.2.2.2.2.1, (K c).2.2.2.2.2.2.2.1, (K c).2.2.2.2.2.2.2.2)) hF3 hcl u52
        have same : xup K2 c (false, pr, nI x, nI y, (K c).2.2.2.2.1, (K c).2.2.2.2.2.1, (K c).2.2.2.2.2.2.1, (K c).2.2.2.2.2.2.2.1, (K c).2.2.2.2.2.2.2.2) = K2 := by
          funext j
          by_cases z : j = c
          · rw [z, xup_s, hK2c]
          · rw [xup_n _ _ z]
        rw [same] at hF4
        refine xg_aload xa_F_request_55 rfl ?_
        refine xg_getfield xa_F_request_57 (by assumption) rfl ?_
        refine xg_if_eq xa_F_request_60 (fun _ => ?_) (fun z => absurd rfl z)
        refine xg_iconst (v := (-1)) xa_F_request_68 (by decide) ?_
        refine xg_ireturn xa_F_request_69  ?_
        exact (kk _ _).1 hl ⟨_, _, _, hF4, R2⟩ (((u2.toS (by omega) (by omega)).tr hS3).tr (u52.toS (by omega) (by omega)))
      · have hc3 := hF3.2.2.2 c hcl
        rw [xup_s] at hc3
        refine xg_putf (fs' := [_, _, _, _, _, _, _, _, _]) xa_F_request_52 (by assumption) (Nat.le_of_ble_eq_true rfl) rfl rfl (fun h52 u52 => ?_)
        have hc4 := u52.2.1
        have hF4 := xFc_con (k := (true, pr, nI x, nI y, nI w, wk, sp, 0, 0)) hF3 hcl u52
        refine xg_aload xa_F_request_55 rfl ?_
        refine xg_getfield xa_F_request_57 (by assumption) rfl ?_
        refine xg_if_eq xa_F_request_60 (fun z => absurd z (by decide)) (fun _ => ?_)
        have R4 : xRel cut lk (xup (xup K2 c (false, pr, nI x, nI y, nI w, wk, sp, 0, 0)) c (true, pr, nI x, nI y, nI w, wk, sp, 0, 0)) Mm Mbr Mlk (xup Mt c true) (xup Mg c pr) (xup Ma c x) (xup Mb c y) (xup Mw c w) (xup Mwk c wk) (xup Msp c sp) (xup Mon c 0) (xup Mct c 0) := by
          obtain ⟨r1, r2, r3, r4⟩ := R2
          refine ⟨r1, r2, fun j hj => ?_, fun j hj ht => ?_⟩
          · by_cases z : j = c
            · rw [z, xup_s, xup_s]
            · rw [xup_n _ _ z, xup_n _ _ z, xup_n _ _ z]; exact r3 j hj
          · by_cases z : j = c
            · rw [z, xup_s, xup_s, xup_s, xup_s, xup_s, xup_s, xup_s, xup_s, xup_s]
              rfl
            · rw [xup_n _ _ z, xup_n _ _ z, xup_n _ _ z, xup_n _ _ z, xup_n _ _ z, xup_n _ _ z, xup_n _ _ z, xup_n _ _ z, xup_n _ _ z, xup_n _ _ z]
              rw [xup_n _ _ z] at ht
              exact r4 j hj ht
        refine xg_iload xa_F_request_63 rfl ?_
        refine xg_goto xa_F_request_65 ?_
        refine xg_ireturn xa_F_request_69  ?_
        exact (kk _ _).2 w wk sp hl ⟨_, _, _, hF4, R4⟩ (((u2.toS (by omega) (by omega)).tr hS3).tr (u52.toS (by omega) (by omega)))
theorem c_F_move {x : Int32} (I : xIn Mn Mm Mh Me Ml Mt Mg Ma Mb Mw Mwk Msp Mon Mct) (hC : xCS h Mn Mm Mh Me Ml Mbr Mlk Mt Mg Ma Mb Mw Mwk Msp Mon Mct)
    (k1 : cd_conn Mt x = 1 → Q (.inr h.length) (h ++ [.inr (5, [])], ks + 6, true))
    (k0 : cd_conn Mt x = 0 → ∀ c h' fl', c < 12 → x = nI c → Mt c = true →
      (xlay (xfw Mm Me Ml Mbr Mlk Mt Mw Mwk Msp (Ma c) (Mb c) (Mg c)) (3 - Mw c) (Mw c + 1) = none → xCS h' Mn Mm Mh Me Ml Mbr Mlk Mt Mg Ma Mb Mw Mwk Msp Mon Mct → xS h h' 0 22 → Q (.inl (some (.int (-1)))) (h', ks, fl')) ∧
      (∀ w wk sp, xlay (xfw Mm Me Ml Mbr Mlk Mt Mw Mwk Msp (Ma c) (Mb c) (Mg c)) (3 - Mw c) (Mw c + 1) = some (w, wk, sp) → xCS h' Mn Mm Mh Me Ml Mbr Mlk Mt Mg Ma Mb (xup Mw c w) (xup Mwk c wk) (xup Msp c sp) (xup Mon c 0) (xup Mct c 0) → xS h h' 0 22 → Q (.inl (some (.int (nI w)))) (h', ks, fl'))) :
    xG xs LS (d + 6) 60 (0, xm_entry xP 60 [.ref 0, .int x], []) (h, ks, true) Q := by
  show xG xs LS (d + 6) 60 (0, [some (.ref 0), some (.int x), none], []) (h, ks, true) Q
  obtain ⟨cut, lk, K, hF, R⟩ := hC
  have hwt : ∀ c, c < 12 → Mt c = true → Mw c < 4 := fun c hc ht => (I.2.2.2 c hc ht).2.2.2.1
  obtain ⟨G, hn2, hE, I⟩ := I
  have hm := G.1
  have h7 := G.2.1
  obtain ⟨f0, ⟨on, bk, co, wy, fN⟩, ⟨fa, f9, fj⟩, fK⟩ := id hF
  obtain ⟨f1, f2, f3, f4, f5, f6, f7, f8⟩ := id fN
  unfold cd_conn at k1 k0
  have hKt : ∀ y, xnC (fun c => (K c).1) y = xnC Mt y := by
    intro y
    unfold xnC
    by_cases c1 : y < 0
    · rw [decide_eq_true c1]; rfl
    · by_cases c2 : 11 < y
      · rw [decide_eq_true c2]; simp
      · obtain ⟨j, hj, rfl⟩ := xi_12 c1 c2
        show (_ || _ || !(K (nI j).toNatClampNeg).1) = _
        rw [nI_clamp (by omega), R.2.2.1 j hj]
  refine xg_aload_n xa_F_move_0 rfl ?_
  refine xg_iload_n xa_F_move_1 rfl ?_
  refine xg_cVT xa_F_move_2 ⟨Nat.le_of_ble_eq_true rfl, Nat.le_of_ble_eq_true rfl, rfl⟩ rfl rfl (by assumption) ?_
  refine c_F_requireConnection hF (fun q => ?_) (fun q => ?_)
  · rw [hKt] at q
    exact xKX_up (xlast _ _) (by decide +kernel) (by decide +kernel) (k1 (if_pos q))
  · rw [hKt] at q
    refine xKX_n ?_
    rw [if_neg (by rw [q]; decide)] at k0
    obtain ⟨c, hc, rfl, ht⟩ := xi_c q
    obtain ⟨ha, hb, hab, hw4, _⟩ := I c hc ht
    have kk := fun h' fl' => k0 rfl c h' fl' hc rfl ht
    have hfc := fj c hc
    have hcc := fK c hc
    have hKc := R.2.2.2 c hc ht
    rw [hKc] at hcc
    refine xg_aload_n xa_F_move_5 rfl ?_
    refine xg_getfield xa_F_move_6 (by assumption) rfl ?_
    refine xg_iload_n xa_F_move_9 rfl ?_
    refine xg_aald_n xa_F_move_10 (by assumption) rfl (by assumption) (by decide) (by assumption) ?_
    refine xg_astore_n (L' := [_, _, _]) xa_F_move_11 (Nat.le_of_ble_eq_true rfl) rfl ?_
    refine xg_aload_n xa_F_move_12 rfl ?_
    refine xg_aload_n xa_F_move_13 rfl ?_
    refine xg_aload_n xa_F_move_14 rfl ?_
    refine xg_getfield xa_F_move_15 (by assumption) rfl ?_
    refine xg_iconst (v := 1) xa_F_move_18 (by decide) ?_
    refine xg_iadd xa_F_move_19 (nI_1 _) ?_
    refine xg_callV1 xa_F_move_20 ⟨Nat.le_of_ble_eq_true rfl, Nat.le_of_ble_eq_true rfl, rfl⟩ rfl rfl (by assumption) ?_
    refine c_F_lay (w0 := Mw c + 1) (Fw := xfw Mm Me Ml Mbr Mlk Mt Mw Mwk Msp (Ma c) (Mb c) (Mg c)) G hF hc hKc ha hb hab (by omega) (fun w hw => by rw [r_free hm hwt R]) (fun hl h3 f3 hF3 hS3 => ?_) (fun w wk sp hl h3 f3 hF3 hS3 => ?_)
    · refine xK1_d ?_
      rw [show 4 - (Mw c + 1) = 3 - Mw c by omega] at hl
      refine xg_if_eq xa_F_move_23 (fun _ => ?_) (fun z => absurd rfl z)
      refine xg_iconst (v := (-1)) xa_F_move_33 (by decide) ?_
      refine xg_ireturn xa_F_move_34  ?_
      exact (kk _ _).1 hl ⟨_, _, _, hF3, R⟩ hS3
    · refine xK1_d ?_
      rw [show 4 - (Mw c + 1) = 3 - Mw c by omega] at hl
      have hc3 := hF3.2.2.2 c hc
      rw [xup_s] at hc3
      refine xg_if_eq xa_F_move_23 (fun z => absurd z (by decide)) (fun _ => ?_)
      have R4 : xRel cut lk (xup K c (true, Mg c, nI (Ma c), nI (Mb c), nI w, wk, sp, 0, 0)) Mm Mbr Mlk Mt Mg Ma Mb (xup Mw c w) (xup Mwk c wk) (xup Msp c sp) (xup Mon c 0) (xup Mct c 0) := by
        obtain ⟨r1, r2, r3, r4⟩ := R
        refine ⟨r1, r2, fun j hj => ?_, fun j hj ht2 => ?_⟩
        · by_cases z : j = c
          · rw [z, xup_s, ht]
          · rw [xup_n _ _ z]; exact r3 j hj
        · by_cases z : j = c
          · rw [z, xup_s, xup_s, xup_s, xup_s, xup_s, xup_s]
            rfl
          · rw [xup_n _ _ z, xup_n _ _ z, xup_n _ _ z, xup_n _ _ z, xup_n _ _ z, xup_n _ _ z]
            exact r4 j hj ht2
      refine xg_aload_n xa_F_move_26 rfl ?_
      refine xg_getfield xa_F_move_27 (by assumption) rfl ?_
      refine xg_goto xa_F_move_30 ?_
      refine xg_ireturn xa_F_move_34  ?_
      exact (kk _ _).2 w wk sp hl ⟨_, _, _, hF3, R4⟩ hS3
end XZ
