/-! 33.list: the model's listing of paths. -/
theorem xa_M_list_0 : xm_at xP 80 0 = some (0, .aload_n 0, 0, 0, 0, 0) := by decide +kernel
theorem xa_M_list_1 : xm_at xP 80 1 = some (1, .iconst 0, 0, 0, 0, 0) := by decide +kernel
theorem xa_M_list_2 : xm_at xP 80 2 = some (2, .putfield 86, 3, 17, 0, 0) := by decide +kernel
theorem xa_M_list_5 : xm_at xP 80 5 = some (5, .iconst 0, 0, 0, 0, 0) := by decide +kernel
theorem xa_M_list_6 : xm_at xP 80 6 = some (6, .istore 4, 0, 0, 0, 0) := by decide +kernel
theorem xa_M_list_8 : xm_at xP 80 8 = some (8, .iconst 0, 0, 0, 0, 0) := by decide +kernel
theorem xa_M_list_9 : xm_at xP 80 9 = some (9, .istore 5, 0, 0, 0, 0) := by decide +kernel
theorem xa_M_list_11 : xm_at xP 80 11 = some (11, .aload_n 0, 0, 0, 0, 0) := by decide +kernel
theorem xa_M_list_12 : xm_at xP 80 12 = some (12, .getfield 60, 3, 20, 0, 0) := by decide +kernel
theorem xa_M_list_15 : xm_at xP 80 15 = some (15, .iconst 0, 0, 0, 0, 0) := by decide +kernel
theorem xa_M_list_16 : xm_at xP 80 16 = some (16, .iload_n 2, 0, 0, 0, 0) := by decide +kernel
theorem xa_M_list_17 : xm_at xP 80 17 = some (17, .iastore, 0, 0, 0, 0) := by decide +kernel
theorem xa_M_list_18 : xm_at xP 80 18 = some (18, .aload_n 0, 0, 0, 0, 0) := by decide +kernel
theorem xa_M_list_19 : xm_at xP 80 19 = some (19, .getfield 63, 3, 21, 0, 0) := by decide +kernel
theorem xa_M_list_22 : xm_at xP 80 22 = some (22, .iconst 0, 0, 0, 0, 0) := by decide +kernel
theorem xa_M_list_23 : xm_at xP 80 23 = some (23, .iconst 0, 0, 0, 0, 0) := by decide +kernel
theorem xa_M_list_24 : xm_at xP 80 24 = some (24, .iastore, 0, 0, 0, 0) := by decide +kernel
theorem xa_M_list_25 : xm_at xP 80 25 = some (25, .iload 4, 0, 0, 0, 0) := by decide +kernel
theorem xa_M_list_27 : xm_at xP 80 27 = some (27, .ifCond .lt 167, 194, 0, 0, 0) := by decide +kernel
theorem xa_M_list_30 : xm_at xP 80 30 = some (30, .aload_n 0, 0, 0, 0, 0) := by decide +kernel
theorem xa_M_list_31 : xm_at xP 80 31 = some (31, .getfield 63, 3, 21, 0, 0) := by decide +kernel
theorem xa_M_list_34 : xm_at xP 80 34 = some (34, .iload 4, 0, 0, 0, 0) := by decide +kernel
theorem xa_M_list_36 : xm_at xP 80 36 = some (36, .iaload, 0, 0, 0, 0) := by decide +kernel
theorem xa_M_list_37 : xm_at xP 80 37 = some (37, .istore 6, 0, 0, 0, 0) := by decide +kernel
theorem xa_M_list_39 : xm_at xP 80 39 = some (39, .aload_n 0, 0, 0, 0, 0) := by decide +kernel
theorem xa_M_list_40 : xm_at xP 80 40 = some (40, .getfield 60, 3, 20, 0, 0) := by decide +kernel
theorem xa_M_list_43 : xm_at xP 80 43 = some (43, .iload 4, 0, 0, 0, 0) := by decide +kernel
theorem xa_M_list_45 : xm_at xP 80 45 = some (45, .iaload, 0, 0, 0, 0) := by decide +kernel
theorem xa_M_list_46 : xm_at xP 80 46 = some (46, .iload_n 3, 0, 0, 0, 0) := by decide +kernel
theorem xa_M_list_47 : xm_at xP 80 47 = some (47, .if_icmp .eq 12, 59, 0, 0, 0) := by decide +kernel
theorem xa_M_list_50 : xm_at xP 80 50 = some (50, .iload 6, 0, 0, 0, 0) := by decide +kernel
theorem xa_M_list_52 : xm_at xP 80 52 = some (52, .aload_n 0, 0, 0, 0, 0) := by decide +kernel
theorem xa_M_list_53 : xm_at xP 80 53 = some (53, .getfield 69, 3, 2, 0, 0) := by decide +kernel
theorem xa_M_list_56 : xm_at xP 80 56 = some (56, .if_icmp .ne 79, 135, 0, 0, 0) := by decide +kernel
theorem xa_M_list_59 : xm_at xP 80 59 = some (59, .aload_n 0, 0, 0, 0, 0) := by decide +kernel
theorem xa_M_list_60 : xm_at xP 80 60 = some (60, .getfield 60, 3, 20, 0, 0) := by decide +kernel
theorem xa_M_list_63 : xm_at xP 80 63 = some (63, .iload 4, 0, 0, 0, 0) := by decide +kernel
theorem xa_M_list_65 : xm_at xP 80 65 = some (65, .iaload, 0, 0, 0, 0) := by decide +kernel
theorem xa_M_list_66 : xm_at xP 80 66 = some (66, .iload_n 3, 0, 0, 0, 0) := by decide +kernel
theorem xa_M_list_67 : xm_at xP 80 67 = some (67, .if_icmp .ne 39, 106, 0, 0, 0) := by decide +kernel
theorem xa_M_list_70 : xm_at xP 80 70 = some (70, .aload_n 0, 0, 0, 0, 0) := by decide +kernel
theorem xa_M_list_71 : xm_at xP 80 71 = some (71, .getfield 54, 3, 18, 0, 0) := by decide +kernel
theorem xa_M_list_74 : xm_at xP 80 74 = some (74, .aload_n 0, 0, 0, 0, 0) := by decide +kernel
theorem xa_M_list_75 : xm_at xP 80 75 = some (75, .getfield 86, 3, 17, 0, 0) := by decide +kernel
theorem xa_M_list_78 : xm_at xP 80 78 = some (78, .iload 5, 0, 0, 0, 0) := by decide +kernel
theorem xa_M_list_80 : xm_at xP 80 80 = some (80, .iastore, 0, 0, 0, 0) := by decide +kernel
theorem xa_M_list_81 : xm_at xP 80 81 = some (81, .aload_n 0, 0, 0, 0, 0) := by decide +kernel
theorem xa_M_list_82 : xm_at xP 80 82 = some (82, .getfield 57, 3, 19, 0, 0) := by decide +kernel
theorem xa_M_list_85 : xm_at xP 80 85 = some (85, .aload_n 0, 0, 0, 0, 0) := by decide +kernel
theorem xa_M_list_86 : xm_at xP 80 86 = some (86, .getfield 86, 3, 17, 0, 0) := by decide +kernel
theorem xa_M_list_89 : xm_at xP 80 89 = some (89, .aload_n 0, 0, 0, 0, 0) := by decide +kernel
theorem xa_M_list_90 : xm_at xP 80 90 = some (90, .iload 5, 0, 0, 0, 0) := by decide +kernel
theorem xa_M_list_92 : xm_at xP 80 92 = some (92, .invokevirtual 89, 81, 2, 3, 0) := by decide +kernel
theorem xa_M_list_95 : xm_at xP 80 95 = some (95, .iastore, 0, 0, 0, 0) := by decide +kernel
theorem xa_M_list_96 : xm_at xP 80 96 = some (96, .aload_n 0, 0, 0, 0, 0) := by decide +kernel
theorem xa_M_list_97 : xm_at xP 80 97 = some (97, .dup, 0, 0, 0, 0) := by decide +kernel
theorem xa_M_list_98 : xm_at xP 80 98 = some (98, .getfield 86, 3, 17, 0, 0) := by decide +kernel
theorem xa_M_list_101 : xm_at xP 80 101 = some (101, .iconst 1, 0, 0, 0, 0) := by decide +kernel
theorem xa_M_list_102 : xm_at xP 80 102 = some (102, .iadd, 0, 0, 0, 0) := by decide +kernel
theorem xa_M_list_103 : xm_at xP 80 103 = some (103, .putfield 86, 3, 17, 0, 0) := by decide +kernel
theorem xa_M_list_106 : xm_at xP 80 106 = some (106, .iinc 4 (-1), 0, 0, 0, 0) := by decide +kernel
theorem xa_M_list_109 : xm_at xP 80 109 = some (109, .iload 4, 0, 0, 0, 0) := by decide +kernel
theorem xa_M_list_111 : xm_at xP 80 111 = some (111, .ifCond .lt 80, 191, 0, 0, 0) := by decide +kernel
theorem xa_M_list_114 : xm_at xP 80 114 = some (114, .iload 5, 0, 0, 0, 0) := by decide +kernel
theorem xa_M_list_116 : xm_at xP 80 116 = some (116, .iconst 1, 0, 0, 0, 0) := by decide +kernel
theorem xa_M_list_117 : xm_at xP 80 117 = some (117, .aload_n 0, 0, 0, 0, 0) := by decide +kernel
theorem xa_M_list_118 : xm_at xP 80 118 = some (118, .getfield 63, 3, 21, 0, 0) := by decide +kernel
theorem xa_M_list_121 : xm_at xP 80 121 = some (121, .iload 4, 0, 0, 0, 0) := by decide +kernel
theorem xa_M_list_123 : xm_at xP 80 123 = some (123, .iaload, 0, 0, 0, 0) := by decide +kernel
theorem xa_M_list_124 : xm_at xP 80 124 = some (124, .iconst 1, 0, 0, 0, 0) := by decide +kernel
theorem xa_M_list_125 : xm_at xP 80 125 = some (125, .isub, 0, 0, 0, 0) := by decide +kernel
theorem xa_M_list_126 : xm_at xP 80 126 = some (126, .ishl, 0, 0, 0, 0) := by decide +kernel
theorem xa_M_list_127 : xm_at xP 80 127 = some (127, .iconst (-1), 0, 0, 0, 0) := by decide +kernel
theorem xa_M_list_128 : xm_at xP 80 128 = some (128, .ixor, 0, 0, 0, 0) := by decide +kernel
theorem xa_M_list_129 : xm_at xP 80 129 = some (129, .iand, 0, 0, 0, 0) := by decide +kernel
theorem xa_M_list_130 : xm_at xP 80 130 = some (130, .istore 5, 0, 0, 0, 0) := by decide +kernel
theorem xa_M_list_132 : xm_at xP 80 132 = some (132, .goto 59, 191, 0, 0, 0) := by decide +kernel
theorem xa_M_list_135 : xm_at xP 80 135 = some (135, .aload_n 0, 0, 0, 0, 0) := by decide +kernel
theorem xa_M_list_136 : xm_at xP 80 136 = some (136, .getfield 63, 3, 21, 0, 0) := by decide +kernel
theorem xa_M_list_139 : xm_at xP 80 139 = some (139, .iload 4, 0, 0, 0, 0) := by decide +kernel
theorem xa_M_list_141 : xm_at xP 80 141 = some (141, .iload 6, 0, 0, 0, 0) := by decide +kernel
theorem xa_M_list_143 : xm_at xP 80 143 = some (143, .iconst 1, 0, 0, 0, 0) := by decide +kernel
theorem xa_M_list_144 : xm_at xP 80 144 = some (144, .iadd, 0, 0, 0, 0) := by decide +kernel
theorem xa_M_list_145 : xm_at xP 80 145 = some (145, .iastore, 0, 0, 0, 0) := by decide +kernel
theorem xa_M_list_146 : xm_at xP 80 146 = some (146, .aload_n 0, 0, 0, 0, 0) := by decide +kernel
theorem xa_M_list_147 : xm_at xP 80 147 = some (147, .iload_n 1, 0, 0, 0, 0) := by decide +kernel
theorem xa_M_list_148 : xm_at xP 80 148 = some (148, .iload 6, 0, 0, 0, 0) := by decide +kernel
theorem xa_M_list_150 : xm_at xP 80 150 = some (150, .iload 4, 0, 0, 0, 0) := by decide +kernel
theorem xa_M_list_152 : xm_at xP 80 152 = some (152, .invokevirtual 93, 82, 4, 3, 0) := by decide +kernel
theorem xa_M_list_155 : xm_at xP 80 155 = some (155, .istore 7, 0, 0, 0, 0) := by decide +kernel
theorem xa_M_list_157 : xm_at xP 80 157 = some (157, .iload 7, 0, 0, 0, 0) := by decide +kernel
theorem xa_M_list_159 : xm_at xP 80 159 = some (159, .ifCond .lt 32, 191, 0, 0, 0) := by decide +kernel
theorem xa_M_list_162 : xm_at xP 80 162 = some (162, .iload 5, 0, 0, 0, 0) := by decide +kernel
theorem xa_M_list_164 : xm_at xP 80 164 = some (164, .iconst 1, 0, 0, 0, 0) := by decide +kernel
theorem xa_M_list_165 : xm_at xP 80 165 = some (165, .iload 6, 0, 0, 0, 0) := by decide +kernel
theorem xa_M_list_167 : xm_at xP 80 167 = some (167, .ishl, 0, 0, 0, 0) := by decide +kernel
theorem xa_M_list_168 : xm_at xP 80 168 = some (168, .ior, 0, 0, 0, 0) := by decide +kernel
theorem xa_M_list_169 : xm_at xP 80 169 = some (169, .istore 5, 0, 0, 0, 0) := by decide +kernel
theorem xa_M_list_171 : xm_at xP 80 171 = some (171, .iinc 4 1, 0, 0, 0, 0) := by decide +kernel
theorem xa_M_list_174 : xm_at xP 80 174 = some (174, .aload_n 0, 0, 0, 0, 0) := by decide +kernel
theorem xa_M_list_175 : xm_at xP 80 175 = some (175, .getfield 60, 3, 20, 0, 0) := by decide +kernel
theorem xa_M_list_178 : xm_at xP 80 178 = some (178, .iload 4, 0, 0, 0, 0) := by decide +kernel
theorem xa_M_list_180 : xm_at xP 80 180 = some (180, .iload 7, 0, 0, 0, 0) := by decide +kernel
theorem xa_M_list_182 : xm_at xP 80 182 = some (182, .iastore, 0, 0, 0, 0) := by decide +kernel
theorem xa_M_list_183 : xm_at xP 80 183 = some (183, .aload_n 0, 0, 0, 0, 0) := by decide +kernel
theorem xa_M_list_184 : xm_at xP 80 184 = some (184, .getfield 63, 3, 21, 0, 0) := by decide +kernel
theorem xa_M_list_187 : xm_at xP 80 187 = some (187, .iload 4, 0, 0, 0, 0) := by decide +kernel
theorem xa_M_list_189 : xm_at xP 80 189 = some (189, .iconst 0, 0, 0, 0, 0) := by decide +kernel
theorem xa_M_list_190 : xm_at xP 80 190 = some (190, .iastore, 0, 0, 0, 0) := by decide +kernel
theorem xa_M_list_191 : xm_at xP 80 191 = some (191, .goto (-166), 25, 0, 0, 0) := by decide +kernel
theorem xa_M_list_194 : xm_at xP 80 194 = some (194, .return_, 0, 0, 0, 0) := by decide +kernel
section XM3
variable {xs : Nat → Int32} {LS d : Nat} {h : List va_E} {ks : Nat} {fl : Bool} {Q : (Option Value ⊕ Nat) → xm_S → Prop}
variable {Mc : Int32} {Mn : Nat} {Mm : Nat} {Mh : Int32} {Mp : Nat} {Mfw : Int32} {Mfs : Int32} {Me : Nat → Nat} {Ml : Nat → Nat} {Mbr : Nat → Bool} {Mlk : Nat → Bool} {Mt : Nat → Bool} {Mg : Nat → Bool} {Ma : Nat → Nat} {Mb : Nat → Nat} {Mw : Nat → Nat} {Mwk : Nat → Int32} {Msp : Nat → Int32} {Mon : Nat → Int32} {Mct : Nat → Int32} {MS : Nat → Int32} {MZ : Nat → Int32} {MA : Nat → Nat} {MN : Nat → Nat}
theorem xi_2f (f : Nat) : (2 : Int32) * nI f = nI (2 * f) := by
  show Int32.ofNat 2 * Int32.ofNat f = Int32.ofNat (2 * f)
  rw [← Int32.ofNat_mul]
/-- the other end of a fibre that ends at v -/
def xoth (e : Nat → Nat) (f v : Nat) : Nat := if e (2 * f) = v then e (2 * f + 1) else e (2 * f)
/-- where fibre f leads from place dp of the way: nowhere, or to a new site -/
def xld (e : Nat → Nat) (s : Int32) (sA : Nat → Nat) (dp f : Nat) : Option Nat :=
  if xb s f = true ∧ (e (2 * f) = sA dp ∨ e (2 * f + 1) = sA dp) ∧ xfst (fun j => decide (sA j = xoth e f (sA dp))) (dp + 1) 0 = none then some (xoth e f (sA dp)) else none
theorem c_M_leads {s : Int32} {f dp : Nat} (hM : xMd h Mc Mn Mm Mh Mp Mfw Mfs Me Ml Mbr Mlk Mt Mg Ma Mb Mw Mwk Msp Mon Mct MS MZ MA MN) (hf : f < 14) (hdp : dp < 8) (hE : ∀ j, Me j < 100) (hA : ∀ j, MA j < 100) (k : Q (.inl (some (.int (xo (xld Me s MA dp f))))) (h, ks, fl)) : xG xs LS (d + 1) 82 (0, xm_entry xP 82 [.ref 22, .int s, .int (nI f), .int (nI dp)], []) (h, ks, fl) Q := by
  obtain ⟨g22, g23, g24, g25, g26, g27, g28, g29, g30, g31, g32, g33, g34, g35, g36, g37, g38, g39⟩ := id hM
  show xG xs LS (d + 1) 82 (0, [some (.ref 22), some (.int s), some (.int (nI f)), some (.int (nI dp)), none, none, none], []) (h, ks, fl) Q
  have f28 : 2 * f < 28 := by omega
  have f29 : 2 * f + 1 < 28 := by omega
  have eq : ∀ i j, nI (Me i) = nI (MA j) ↔ Me i = MA j := fun i j => nI_eq (by have := hE i; omega) (by have := hA j; omega)
  have eq2 : ∀ i j, nI (MA j) = nI (Me i) ↔ MA j = Me i := fun i j => nI_eq (by have := hA j; omega) (by have := hE i; omega)
  unfold xld at k
  have tail : ∀ i, nI (Me i) = nI (xoth Me f (MA dp)) → Me i = xoth Me f (MA dp) → xb s f = true → (Me (2 * f) = MA dp ∨ Me (2 * f + 1) = MA dp) → xG xs LS (d + 1) 82 (82, [some (.ref 22), some (.int s), some (.int (nI f)), some (.int (nI dp)), some (.int (nI (MA dp))), none, none], [.int (nI (Me i))]) (h, ks, fl) Q := by
    intro i _ hi hb he
    have loop : ∀ n j, j + n = dp + 1 → (xfst (fun j => decide (MA j = xoth Me f (MA dp))) n j = none ↔ xfst (fun j => decide (MA j = xoth Me f (MA dp))) (dp + 1) 0 = none) → xG xs LS (d + 1) 82 (87, [some (.ref 22), some (.int s), some (.int (nI f)), some (.int (nI dp)), some (.int (nI (MA dp))), some (.int (nI (Me i))), some (.int (nI j))], []) (h, ks, fl) Q := by
      intro n
      induction n with
      | zero =>
        intro j hj hx
        rw [if_pos ⟨hb, he, hx.mp rfl⟩, ← hi] at k
        refine xg_iload xa_M_leads_87 rfl ?_
        refine xg_iload_n xa_M_leads_89 rfl ?_
        refine xg_icmp_gt xa_M_leads_90 (fun _ => ?_) (fun c => absurd (nI_lt (by omega) (by omega)) c)
        refine xg_iload xa_M_leads_113 rfl ?_
        refine xg_ireturn xa_M_leads_115  ?_
        exact k
      | succ n ih =>
        intro j hj hx
        have hj8 : j < 8 := by omega
        refine xg_iload xa_M_leads_87 rfl ?_
        refine xg_iload_n xa_M_leads_89 rfl ?_
        refine xg_icmp_gt xa_M_leads_90 (fun c => absurd c (nI_nlt (by omega) (by omega))) (fun _ => ?_)
        refine xg_aload_n xa_M_leads_93 rfl ?_
        refine xg_getfield xa_M_leads_94 (by assumption) rfl ?_
        refine xg_iload xa_M_leads_97 rfl ?_
        refine xg_iald_n xa_M_leads_99 (by assumption) rfl (by assumption) (by decide) ?_
        refine xg_iload xa_M_leads_100 rfl ?_
        refine xg_icmp_ne xa_M_leads_102 (fun c => ?_) (fun c => ?_)
        · have hne : ¬ MA j = xoth Me f (MA dp) := by rw [← hi]; exact fun q => c ((eq2 _ _).mpr q)
          unfold xfst at hx
          rw [if_neg (by rw [decide_eq_false hne]; decide)] at hx
          refine xg_iinc (L' := [_, _, _, _, _, _, _]) xa_M_leads_107 rfl (xi_inc _) rfl ?_
          refine xg_goto xa_M_leads_110 ?_
          exact ih (j + 1) (by omega) hx
        · have heq : MA j = xoth Me f (MA dp) := by rw [← hi]; exact (eq2 _ _).mp c
          unfold xfst at hx
          rw [if_pos (decide_eq_true heq)] at hx
          rw [if_neg (fun q => by have := hx.mpr q.2.2; cases this)] at k
          refine xg_iconst (v := (-1)) xa_M_leads_105 (by decide) ?_
          refine xg_ireturn xa_M_leads_106  ?_
          exact k
    refine xg_istore (L' := [_, _, _, _, _, _, _]) xa_M_leads_82 (Nat.le_of_ble_eq_true rfl) rfl ?_
    refine xg_iconst (v := 0) xa_M_leads_84 (by decide) ?_
    refine xg_istore (L' := [_, _, _, _, _, _, _]) xa_M_leads_85 (Nat.le_of_ble_eq_true rfl) rfl ?_
    exact loop (dp + 1) 0 (by omega) Iff.rfl
  refine xg_iload_n xa_M_leads_0 rfl ?_
  refine xg_iload_n xa_M_leads_1 rfl ?_
  refine xg_callS1 xa_M_leads_2 ⟨Nat.le_of_ble_eq_true rfl, Nat.le_of_ble_eq_true rfl, rfl⟩ rfl rfl ?_
  refine c_M_bit (by omega) ?_
  refine xK1_c ?_
  refine xg_if_ne xa_M_leads_5 (fun c5 => ?_) (fun c5 => ?_)
  · have hb := xz1 c5
    have second : Me (2 * f) = MA dp ∨ Me (2 * f + 1) = MA dp → xG xs LS (d + 1) 82 (48, [some (.ref 22), some (.int s), some (.int (nI f)), some (.int (nI dp)), some (.int (nI (MA dp))), none, none], []) (h, ks, fl) Q := by
      intro he
      refine xg_aload_n xa_M_leads_48 rfl ?_
      refine xg_getfield xa_M_leads_49 (by assumption) rfl ?_
      refine xg_iconst (v := 2) xa_M_leads_52 (by decide) ?_
      refine xg_iload_n xa_M_leads_53 rfl ?_
      refine xg_imul xa_M_leads_54 (xi_2f f) ?_
      refine xg_iald_n xa_M_leads_55 (by assumption) rfl (by assumption) (by decide) ?_
      refine xg_iload xa_M_leads_56 rfl ?_
      refine xg_icmp_ne xa_M_leads_58 (fun c => ?_) (fun c => ?_)
      · have e1 : xoth Me f (MA dp) = Me (2 * f) := if_neg (fun q => c ((eq _ _).mpr q))
        refine xg_aload_n xa_M_leads_74 rfl ?_
        refine xg_getfield xa_M_leads_75 (by assumption) rfl ?_
        refine xg_iconst (v := 2) xa_M_leads_78 (by decide) ?_
        refine xg_iload_n xa_M_leads_79 rfl ?_
        refine xg_imul xa_M_leads_80 (xi_2f f) ?_
        refine xg_iald_n xa_M_leads_81 (by assumption) rfl (by assumption) (by decide) ?_
        exact tail (2 * f) (by rw [e1]) e1.symm hb he
      · have e1 : xoth Me f (MA dp) = Me (2 * f + 1) := if_pos ((eq _ _).mp c)
        refine xg_aload_n xa_M_leads_61 rfl ?_
        refine xg_getfield xa_M_leads_62 (by assumption) rfl ?_
        refine xg_iconst (v := 2) xa_M_leads_65 (by decide) ?_
        refine xg_iload_n xa_M_leads_66 rfl ?_
        refine xg_imul xa_M_leads_67 (xi_2f f) ?_
        refine xg_iconst (v := 1) xa_M_leads_68 (by decide) ?_
        refine xg_iadd xa_M_leads_69 (nI_1 _) ?_
        refine xg_iald_n xa_M_leads_70 (by assumption) rfl (by assumption) (by decide) ?_
        refine xg_goto xa_M_leads_71 ?_
        exact tail (2 * f + 1) (by rw [e1]) e1.symm hb he
    refine xg_aload_n xa_M_leads_10 rfl ?_
    refine xg_getfield xa_M_leads_11 (by assumption) rfl ?_
    refine xg_iload_n xa_M_leads_14 rfl ?_
    refine xg_iald_n xa_M_leads_15 (by assumption) rfl (by assumption) (by decide) ?_
    refine xg_istore (L' := [_, _, _, _, _, _, _]) xa_M_leads_16 (Nat.le_of_ble_eq_true rfl) rfl ?_
    refine xg_aload_n xa_M_leads_18 rfl ?_
    refine xg_getfield xa_M_leads_19 (by assumption) rfl ?_
    refine xg_iconst (v := 2) xa_M_leads_22 (by decide) ?_
    refine xg_iload_n xa_M_leads_23 rfl ?_
    refine xg_imul xa_M_leads_24 (xi_2f f) ?_
    refine xg_iald_n xa_M_leads_25 (by assumption) rfl (by assumption) (by decide) ?_
    refine xg_iload xa_M_leads_26 rfl ?_
    refine xg_icmp_eq xa_M_leads_28 (fun c => second (Or.inl ((eq _ _).mp c))) (fun c28 => ?_)
    refine xg_aload_n xa_M_leads_31 rfl ?_
    refine xg_getfield xa_M_leads_32 (by assumption) rfl ?_
    refine xg_iconst (v := 2) xa_M_leads_35 (by decide) ?_
    refine xg_iload_n xa_M_leads_36 rfl ?_
    refine xg_imul xa_M_leads_37 (xi_2f f) ?_
    refine xg_iconst (v := 1) xa_M_leads_38 (by decide) ?_
    refine xg_iadd xa_M_leads_39 (nI_1 _) ?_
    refine xg_iald_n xa_M_leads_40 (by assumption) rfl (by assumption) (by decide) ?_
    refine xg_iload xa_M_leads_41 rfl ?_
    refine xg_icmp_eq xa_M_leads_43 (fun c => second (Or.inr ((eq _ _).mp c))) (fun c43 => ?_)
    rw [if_neg (fun q => by
      rcases q.2.1 with z | z
      · exact c28 ((eq _ _).mpr z)
      · exact c43 ((eq _ _).mpr z))] at k
    refine xg_iconst (v := (-1)) xa_M_leads_46 (by decide) ?_
    refine xg_ireturn xa_M_leads_47  ?_
    exact k
  · rw [if_neg (fun q => by rw [(xz0 _).mp c5] at q; cases q.1)] at k
    refine xg_iconst (v := (-1)) xa_M_leads_8 (by decide) ?_
    refine xg_ireturn xa_M_leads_9  ?_
    exact k
end XM3
