/-! 66.path: the paths' fibres, one by one. -/
theorem xa_N_step_0 : xm_at xP 51 0 = some (0, .iload_n 3, 0, 0, 0, 0) := by decide +kernel
theorem xa_N_step_1 : xm_at xP 51 1 = some (1, .ifCond .lt 11, 12, 0, 0, 0) := by decide +kernel
theorem xa_N_step_4 : xm_at xP 51 4 = some (4, .iload_n 3, 0, 0, 0, 0) := by decide +kernel
theorem xa_N_step_5 : xm_at xP 51 5 = some (5, .iload_n 1, 0, 0, 0, 0) := by decide +kernel
theorem xa_N_step_6 : xm_at xP 51 6 = some (6, .invokestatic 44, 52, 1, 0, 0) := by decide +kernel
theorem xa_N_step_9 : xm_at xP 51 9 = some (9, .if_icmp .lt 5, 14, 0, 0, 0) := by decide +kernel
theorem xa_N_step_12 : xm_at xP 51 12 = some (12, .iconst (-1), 0, 0, 0, 0) := by decide +kernel
theorem xa_N_step_13 : xm_at xP 51 13 = some (13, .ireturn, 0, 0, 0, 0) := by decide +kernel
theorem xa_N_step_14 : xm_at xP 51 14 = some (14, .iload_n 1, 0, 0, 0, 0) := by decide +kernel
theorem xa_N_step_15 : xm_at xP 51 15 = some (15, .istore 4, 0, 0, 0, 0) := by decide +kernel
theorem xa_N_step_17 : xm_at xP 51 17 = some (17, .iload_n 2, 0, 0, 0, 0) := by decide +kernel
theorem xa_N_step_18 : xm_at xP 51 18 = some (18, .istore 5, 0, 0, 0, 0) := by decide +kernel
theorem xa_N_step_20 : xm_at xP 51 20 = some (20, .aload_n 0, 0, 0, 0, 0) := by decide +kernel
theorem xa_N_step_21 : xm_at xP 51 21 = some (21, .iload 4, 0, 0, 0, 0) := by decide +kernel
theorem xa_N_step_23 : xm_at xP 51 23 = some (23, .iload 5, 0, 0, 0, 0) := by decide +kernel
theorem xa_N_step_25 : xm_at xP 51 25 = some (25, .invokevirtual 50, 34, 3, 1, 0) := by decide +kernel
theorem xa_N_step_28 : xm_at xP 51 28 = some (28, .istore 6, 0, 0, 0, 0) := by decide +kernel
theorem xa_N_step_30 : xm_at xP 51 30 = some (30, .iconst 0, 0, 0, 0, 0) := by decide +kernel
theorem xa_N_step_31 : xm_at xP 51 31 = some (31, .istore 7, 0, 0, 0, 0) := by decide +kernel
theorem xa_N_step_33 : xm_at xP 51 33 = some (33, .iload 7, 0, 0, 0, 0) := by decide +kernel
theorem xa_N_step_35 : xm_at xP 51 35 = some (35, .iload_n 3, 0, 0, 0, 0) := by decide +kernel
theorem xa_N_step_36 : xm_at xP 51 36 = some (36, .if_icmp .ge 44, 80, 0, 0, 0) := by decide +kernel
theorem xa_N_step_39 : xm_at xP 51 39 = some (39, .iload 6, 0, 0, 0, 0) := by decide +kernel
theorem xa_N_step_41 : xm_at xP 51 41 = some (41, .iconst (-1), 0, 0, 0, 0) := by decide +kernel
theorem xa_N_step_42 : xm_at xP 51 42 = some (42, .if_icmp .eq 38, 80, 0, 0, 0) := by decide +kernel
theorem xa_N_step_45 : xm_at xP 51 45 = some (45, .iload 4, 0, 0, 0, 0) := by decide +kernel
theorem xa_N_step_47 : xm_at xP 51 47 = some (47, .iconst 1, 0, 0, 0, 0) := by decide +kernel
theorem xa_N_step_48 : xm_at xP 51 48 = some (48, .iload 6, 0, 0, 0, 0) := by decide +kernel
theorem xa_N_step_50 : xm_at xP 51 50 = some (50, .ishl, 0, 0, 0, 0) := by decide +kernel
theorem xa_N_step_51 : xm_at xP 51 51 = some (51, .ixor, 0, 0, 0, 0) := by decide +kernel
theorem xa_N_step_52 : xm_at xP 51 52 = some (52, .istore 4, 0, 0, 0, 0) := by decide +kernel
theorem xa_N_step_54 : xm_at xP 51 54 = some (54, .aload_n 0, 0, 0, 0, 0) := by decide +kernel
theorem xa_N_step_55 : xm_at xP 51 55 = some (55, .iload 6, 0, 0, 0, 0) := by decide +kernel
theorem xa_N_step_57 : xm_at xP 51 57 = some (57, .iload 5, 0, 0, 0, 0) := by decide +kernel
theorem xa_N_step_59 : xm_at xP 51 59 = some (59, .invokevirtual 54, 35, 3, 1, 0) := by decide +kernel
theorem xa_N_step_62 : xm_at xP 51 62 = some (62, .istore 5, 0, 0, 0, 0) := by decide +kernel
theorem xa_N_step_64 : xm_at xP 51 64 = some (64, .aload_n 0, 0, 0, 0, 0) := by decide +kernel
theorem xa_N_step_65 : xm_at xP 51 65 = some (65, .iload 4, 0, 0, 0, 0) := by decide +kernel
theorem xa_N_step_67 : xm_at xP 51 67 = some (67, .iload 5, 0, 0, 0, 0) := by decide +kernel
theorem xa_N_step_69 : xm_at xP 51 69 = some (69, .invokevirtual 50, 34, 3, 1, 0) := by decide +kernel
theorem xa_N_step_72 : xm_at xP 51 72 = some (72, .istore 6, 0, 0, 0, 0) := by decide +kernel
theorem xa_N_step_74 : xm_at xP 51 74 = some (74, .iinc 7 1, 0, 0, 0, 0) := by decide +kernel
theorem xa_N_step_77 : xm_at xP 51 77 = some (77, .goto (-44), 33, 0, 0, 0) := by decide +kernel
theorem xa_N_step_80 : xm_at xP 51 80 = some (80, .iload 6, 0, 0, 0, 0) := by decide +kernel
theorem xa_N_step_82 : xm_at xP 51 82 = some (82, .ireturn, 0, 0, 0, 0) := by decide +kernel
theorem xa_F_path_0 : xm_at xP 50 0 = some (0, .aload_n 0, 0, 0, 0, 0) := by decide +kernel
theorem xa_F_path_1 : xm_at xP 50 1 = some (1, .iload_n 1, 0, 0, 0, 0) := by decide +kernel
theorem xa_F_path_2 : xm_at xP 50 2 = some (2, .invokevirtual 70, 39, 2, 2, 0) := by decide +kernel
theorem xa_F_path_5 : xm_at xP 50 5 = some (5, .aload_n 0, 0, 0, 0, 0) := by decide +kernel
theorem xa_F_path_6 : xm_at xP 50 6 = some (6, .getfield 18, 2, 1, 0, 0) := by decide +kernel
theorem xa_F_path_9 : xm_at xP 50 9 = some (9, .iload_n 1, 0, 0, 0, 0) := by decide +kernel
theorem xa_F_path_10 : xm_at xP 50 10 = some (10, .aaload, 0, 0, 0, 0) := by decide +kernel
theorem xa_F_path_11 : xm_at xP 50 11 = some (11, .astore 4, 0, 0, 0, 0) := by decide +kernel
theorem xa_F_path_13 : xm_at xP 50 13 = some (13, .aload_n 0, 0, 0, 0, 0) := by decide +kernel
theorem xa_F_path_14 : xm_at xP 50 14 = some (14, .getfield 10, 2, 0, 0, 0) := by decide +kernel
theorem xa_F_path_17 : xm_at xP 50 17 = some (17, .iload_n 2, 0, 0, 0, 0) := by decide +kernel
theorem xa_F_path_18 : xm_at xP 50 18 = some (18, .ifCond .eq 11, 29, 0, 0, 0) := by decide +kernel
theorem xa_F_path_21 : xm_at xP 50 21 = some (21, .aload 4, 0, 0, 0, 0) := by decide +kernel
theorem xa_F_path_23 : xm_at xP 50 23 = some (23, .getfield 86, 0, 6, 0, 0) := by decide +kernel
theorem xa_F_path_26 : xm_at xP 50 26 = some (26, .goto 8, 34, 0, 0, 0) := by decide +kernel
theorem xa_F_path_29 : xm_at xP 50 29 = some (29, .aload 4, 0, 0, 0, 0) := by decide +kernel
theorem xa_F_path_31 : xm_at xP 50 31 = some (31, .getfield 89, 0, 5, 0, 0) := by decide +kernel
theorem xa_F_path_34 : xm_at xP 50 34 = some (34, .aload 4, 0, 0, 0, 0) := by decide +kernel
theorem xa_F_path_36 : xm_at xP 50 36 = some (36, .getfield 92, 0, 2, 0, 0) := by decide +kernel
theorem xa_F_path_39 : xm_at xP 50 39 = some (39, .iload_n 3, 0, 0, 0, 0) := by decide +kernel
theorem xa_F_path_40 : xm_at xP 50 40 = some (40, .invokevirtual 95, 51, 4, 1, 0) := by decide +kernel
theorem xa_F_path_43 : xm_at xP 50 43 = some (43, .ireturn, 0, 0, 0, 0) := by decide +kernel
theorem xa_M_path_0 : xm_at xP 97 0 = some (0, .aload_n 0, 0, 0, 0, 0) := by decide +kernel
theorem xa_M_path_1 : xm_at xP 97 1 = some (1, .aload_n 0, 0, 0, 0, 0) := by decide +kernel
theorem xa_M_path_2 : xm_at xP 97 2 = some (2, .iload_n 1, 0, 0, 0, 0) := by decide +kernel
theorem xa_M_path_3 : xm_at xP 97 3 = some (3, .invokevirtual 134, 87, 2, 3, 0) := by decide +kernel
theorem xa_M_path_6 : xm_at xP 97 6 = some (6, .ifCond .eq 7, 13, 0, 0, 0) := by decide +kernel
theorem xa_M_path_9 : xm_at xP 97 9 = some (9, .iconst 1, 0, 0, 0, 0) := by decide +kernel
theorem xa_M_path_10 : xm_at xP 97 10 = some (10, .goto 4, 14, 0, 0, 0) := by decide +kernel
theorem xa_M_path_13 : xm_at xP 97 13 = some (13, .iconst 0, 0, 0, 0, 0) := by decide +kernel
theorem xa_M_path_14 : xm_at xP 97 14 = some (14, .putfield 66, 3, 0, 0, 0) := by decide +kernel
theorem xa_M_path_17 : xm_at xP 97 17 = some (17, .aload_n 0, 0, 0, 0, 0) := by decide +kernel
theorem xa_M_path_18 : xm_at xP 97 18 = some (18, .getfield 66, 3, 0, 0, 0) := by decide +kernel
theorem xa_M_path_21 : xm_at xP 97 21 = some (21, .ifCond .le 5, 26, 0, 0, 0) := by decide +kernel
theorem xa_M_path_24 : xm_at xP 97 24 = some (24, .iconst 0, 0, 0, 0, 0) := by decide +kernel
theorem xa_M_path_25 : xm_at xP 97 25 = some (25, .ireturn, 0, 0, 0, 0) := by decide +kernel
theorem xa_M_path_26 : xm_at xP 97 26 = some (26, .iload_n 2, 0, 0, 0, 0) := by decide +kernel
theorem xa_M_path_27 : xm_at xP 97 27 = some (27, .ifCond .eq 12, 39, 0, 0, 0) := by decide +kernel
theorem xa_M_path_30 : xm_at xP 97 30 = some (30, .aload_n 0, 0, 0, 0, 0) := by decide +kernel
theorem xa_M_path_31 : xm_at xP 97 31 = some (31, .getfield 45, 3, 14, 0, 0) := by decide +kernel
theorem xa_M_path_34 : xm_at xP 97 34 = some (34, .iload_n 1, 0, 0, 0, 0) := by decide +kernel
theorem xa_M_path_35 : xm_at xP 97 35 = some (35, .iaload, 0, 0, 0, 0) := by decide +kernel
theorem xa_M_path_36 : xm_at xP 97 36 = some (36, .goto 9, 45, 0, 0, 0) := by decide +kernel
theorem xa_M_path_39 : xm_at xP 97 39 = some (39, .aload_n 0, 0, 0, 0, 0) := by decide +kernel
theorem xa_M_path_40 : xm_at xP 97 40 = some (40, .getfield 42, 3, 13, 0, 0) := by decide +kernel
theorem xa_M_path_43 : xm_at xP 97 43 = some (43, .iload_n 1, 0, 0, 0, 0) := by decide +kernel
theorem xa_M_path_44 : xm_at xP 97 44 = some (44, .iaload, 0, 0, 0, 0) := by decide +kernel
theorem xa_M_path_45 : xm_at xP 97 45 = some (45, .istore 4, 0, 0, 0, 0) := by decide +kernel
theorem xa_M_path_47 : xm_at xP 97 47 = some (47, .aload_n 0, 0, 0, 0, 0) := by decide +kernel
theorem xa_M_path_48 : xm_at xP 97 48 = some (48, .getfield 33, 3, 10, 0, 0) := by decide +kernel
theorem xa_M_path_51 : xm_at xP 97 51 = some (51, .iload_n 1, 0, 0, 0, 0) := by decide +kernel
theorem xa_M_path_52 : xm_at xP 97 52 = some (52, .iaload, 0, 0, 0, 0) := by decide +kernel
theorem xa_M_path_53 : xm_at xP 97 53 = some (53, .istore 5, 0, 0, 0, 0) := by decide +kernel
theorem xa_M_path_55 : xm_at xP 97 55 = some (55, .iconst 0, 0, 0, 0, 0) := by decide +kernel
theorem xa_M_path_56 : xm_at xP 97 56 = some (56, .istore 6, 0, 0, 0, 0) := by decide +kernel
theorem xa_M_path_58 : xm_at xP 97 58 = some (58, .iload 4, 0, 0, 0, 0) := by decide +kernel
theorem xa_M_path_60 : xm_at xP 97 60 = some (60, .ifCond .eq 117, 177, 0, 0, 0) := by decide +kernel
theorem xa_M_path_63 : xm_at xP 97 63 = some (63, .iconst 0, 0, 0, 0, 0) := by decide +kernel
theorem xa_M_path_64 : xm_at xP 97 64 = some (64, .istore 7, 0, 0, 0, 0) := by decide +kernel
theorem xa_M_path_66 : xm_at xP 97 66 = some (66, .iload 4, 0, 0, 0, 0) := by decide +kernel
theorem xa_M_path_68 : xm_at xP 97 68 = some (68, .iload 7, 0, 0, 0, 0) := by decide +kernel
theorem xa_M_path_70 : xm_at xP 97 70 = some (70, .invokestatic 72, 78, 2, 0, 0) := by decide +kernel
theorem xa_M_path_73 : xm_at xP 97 73 = some (73, .ifCond .eq 33, 106, 0, 0, 0) := by decide +kernel
theorem xa_M_path_76 : xm_at xP 97 76 = some (76, .aload_n 0, 0, 0, 0, 0) := by decide +kernel
theorem xa_M_path_77 : xm_at xP 97 77 = some (77, .getfield 13, 3, 3, 0, 0) := by decide +kernel
theorem xa_M_path_80 : xm_at xP 97 80 = some (80, .iconst 2, 0, 0, 0, 0) := by decide +kernel
theorem xa_M_path_81 : xm_at xP 97 81 = some (81, .iload 7, 0, 0, 0, 0) := by decide +kernel
theorem xa_M_path_83 : xm_at xP 97 83 = some (83, .imul, 0, 0, 0, 0) := by decide +kernel
theorem xa_M_path_84 : xm_at xP 97 84 = some (84, .iaload, 0, 0, 0, 0) := by decide +kernel
theorem xa_M_path_85 : xm_at xP 97 85 = some (85, .iload 5, 0, 0, 0, 0) := by decide +kernel
theorem xa_M_path_87 : xm_at xP 97 87 = some (87, .if_icmp .eq 25, 112, 0, 0, 0) := by decide +kernel
theorem xa_M_path_90 : xm_at xP 97 90 = some (90, .aload_n 0, 0, 0, 0, 0) := by decide +kernel
theorem xa_M_path_91 : xm_at xP 97 91 = some (91, .getfield 13, 3, 3, 0, 0) := by decide +kernel
theorem xa_M_path_94 : xm_at xP 97 94 = some (94, .iconst 2, 0, 0, 0, 0) := by decide +kernel
theorem xa_M_path_95 : xm_at xP 97 95 = some (95, .iload 7, 0, 0, 0, 0) := by decide +kernel
theorem xa_M_path_97 : xm_at xP 97 97 = some (97, .imul, 0, 0, 0, 0) := by decide +kernel
theorem xa_M_path_98 : xm_at xP 97 98 = some (98, .iconst 1, 0, 0, 0, 0) := by decide +kernel
theorem xa_M_path_99 : xm_at xP 97 99 = some (99, .iadd, 0, 0, 0, 0) := by decide +kernel
theorem xa_M_path_100 : xm_at xP 97 100 = some (100, .iaload, 0, 0, 0, 0) := by decide +kernel
theorem xa_M_path_101 : xm_at xP 97 101 = some (101, .iload 5, 0, 0, 0, 0) := by decide +kernel
theorem xa_M_path_103 : xm_at xP 97 103 = some (103, .if_icmp .eq 9, 112, 0, 0, 0) := by decide +kernel
theorem xa_M_path_106 : xm_at xP 97 106 = some (106, .iinc 7 1, 0, 0, 0, 0) := by decide +kernel
theorem xa_M_path_109 : xm_at xP 97 109 = some (109, .goto (-43), 66, 0, 0, 0) := by decide +kernel
theorem xa_M_path_112 : xm_at xP 97 112 = some (112, .iload 6, 0, 0, 0, 0) := by decide +kernel
theorem xa_M_path_114 : xm_at xP 97 114 = some (114, .iload_n 3, 0, 0, 0, 0) := by decide +kernel
theorem xa_M_path_115 : xm_at xP 97 115 = some (115, .if_icmp .ne 6, 121, 0, 0, 0) := by decide +kernel
theorem xa_M_path_118 : xm_at xP 97 118 = some (118, .iload 7, 0, 0, 0, 0) := by decide +kernel
theorem xa_M_path_120 : xm_at xP 97 120 = some (120, .ireturn, 0, 0, 0, 0) := by decide +kernel
theorem xa_M_path_121 : xm_at xP 97 121 = some (121, .aload_n 0, 0, 0, 0, 0) := by decide +kernel
theorem xa_M_path_122 : xm_at xP 97 122 = some (122, .getfield 13, 3, 3, 0, 0) := by decide +kernel
theorem xa_M_path_125 : xm_at xP 97 125 = some (125, .iconst 2, 0, 0, 0, 0) := by decide +kernel
theorem xa_M_path_126 : xm_at xP 97 126 = some (126, .iload 7, 0, 0, 0, 0) := by decide +kernel
theorem xa_M_path_128 : xm_at xP 97 128 = some (128, .imul, 0, 0, 0, 0) := by decide +kernel
theorem xa_M_path_129 : xm_at xP 97 129 = some (129, .iaload, 0, 0, 0, 0) := by decide +kernel
theorem xa_M_path_130 : xm_at xP 97 130 = some (130, .iload 5, 0, 0, 0, 0) := by decide +kernel
theorem xa_M_path_132 : xm_at xP 97 132 = some (132, .if_icmp .ne 17, 149, 0, 0, 0) := by decide +kernel
theorem xa_M_path_135 : xm_at xP 97 135 = some (135, .aload_n 0, 0, 0, 0, 0) := by decide +kernel
theorem xa_M_path_136 : xm_at xP 97 136 = some (136, .getfield 13, 3, 3, 0, 0) := by decide +kernel
theorem xa_M_path_139 : xm_at xP 97 139 = some (139, .iconst 2, 0, 0, 0, 0) := by decide +kernel
theorem xa_M_path_140 : xm_at xP 97 140 = some (140, .iload 7, 0, 0, 0, 0) := by decide +kernel
theorem xa_M_path_142 : xm_at xP 97 142 = some (142, .imul, 0, 0, 0, 0) := by decide +kernel
theorem xa_M_path_143 : xm_at xP 97 143 = some (143, .iconst 1, 0, 0, 0, 0) := by decide +kernel
theorem xa_M_path_144 : xm_at xP 97 144 = some (144, .iadd, 0, 0, 0, 0) := by decide +kernel
theorem xa_M_path_145 : xm_at xP 97 145 = some (145, .iaload, 0, 0, 0, 0) := by decide +kernel
theorem xa_M_path_146 : xm_at xP 97 146 = some (146, .goto 12, 158, 0, 0, 0) := by decide +kernel
theorem xa_M_path_149 : xm_at xP 97 149 = some (149, .aload_n 0, 0, 0, 0, 0) := by decide +kernel
theorem xa_M_path_150 : xm_at xP 97 150 = some (150, .getfield 13, 3, 3, 0, 0) := by decide +kernel
theorem xa_M_path_153 : xm_at xP 97 153 = some (153, .iconst 2, 0, 0, 0, 0) := by decide +kernel
theorem xa_M_path_154 : xm_at xP 97 154 = some (154, .iload 7, 0, 0, 0, 0) := by decide +kernel
theorem xa_M_path_156 : xm_at xP 97 156 = some (156, .imul, 0, 0, 0, 0) := by decide +kernel
theorem xa_M_path_157 : xm_at xP 97 157 = some (157, .iaload, 0, 0, 0, 0) := by decide +kernel
theorem xa_M_path_158 : xm_at xP 97 158 = some (158, .istore 5, 0, 0, 0, 0) := by decide +kernel
theorem xa_M_path_160 : xm_at xP 97 160 = some (160, .iload 4, 0, 0, 0, 0) := by decide +kernel
theorem xa_M_path_162 : xm_at xP 97 162 = some (162, .iconst 1, 0, 0, 0, 0) := by decide +kernel
theorem xa_M_path_163 : xm_at xP 97 163 = some (163, .iload 7, 0, 0, 0, 0) := by decide +kernel
theorem xa_M_path_165 : xm_at xP 97 165 = some (165, .ishl, 0, 0, 0, 0) := by decide +kernel
theorem xa_M_path_166 : xm_at xP 97 166 = some (166, .iconst (-1), 0, 0, 0, 0) := by decide +kernel
theorem xa_M_path_167 : xm_at xP 97 167 = some (167, .ixor, 0, 0, 0, 0) := by decide +kernel
theorem xa_M_path_168 : xm_at xP 97 168 = some (168, .iand, 0, 0, 0, 0) := by decide +kernel
theorem xa_M_path_169 : xm_at xP 97 169 = some (169, .istore 4, 0, 0, 0, 0) := by decide +kernel
theorem xa_M_path_171 : xm_at xP 97 171 = some (171, .iinc 6 1, 0, 0, 0, 0) := by decide +kernel
theorem xa_M_path_174 : xm_at xP 97 174 = some (174, .goto (-116), 58, 0, 0, 0) := by decide +kernel
theorem xa_M_path_177 : xm_at xP 97 177 = some (177, .iconst (-1), 0, 0, 0, 0) := by decide +kernel
theorem xa_M_path_178 : xm_at xP 97 178 = some (178, .ireturn, 0, 0, 0, 0) := by decide +kernel
section XPA
variable {xs : Nat → Int32} {LS d : Nat} {ks : Nat} {fl : Bool} {h h' : List va_E} {Q : (Option Value ⊕ Nat) → xm_S → Prop}
/-- fibre i of the list, counted from k on -/
def xpw : List Nat → Nat → Int32 → Int32
  | [], _, _ => -1
  | f :: P, k, i => if nI k = i then nI f else xpw P (k + 1) i
theorem xpw_neg {i : Int32} (hi : i < 0) : ∀ P k, k + P.length < 1000 → xpw P k i = -1 := by
  intro P
  induction P with
  | nil => intro k _; rfl
  | cons f P ih =>
    intro k hk
    unfold xpw
    rw [if_neg (fun q => by rw [← q] at hi; exact nI_pos (by simp at hk; omega) hi)]
    exact ih (k + 1) (by simp at hk; omega)
theorem xpw_get : ∀ P k j, k + P.length < 1000 → j < 2 ^ 31 - 1000 → xpw P k (nI (k + j)) = match P[j]? with | none => -1 | some f => nI f := by
  intro P
  induction P with
  | nil => intro k j _ _; rfl
  | cons f P ih =>
    intro k j hk hj
    unfold xpw
    cases j with
    | zero => rw [if_pos (show nI k = nI (k + 0) from rfl)]; rfl
    | succ j =>
      rw [if_neg (fun q => by have := (nI_eq (by simp at hk; omega) (by simp at hk; omega)).mp q; omega), show k + (j + 1) = k + 1 + j by omega, ih (k + 1) j (by simp at hk; omega) (by omega)]
      rfl
theorem xcnt_put {p q : Nat → Bool} {g : Nat} (hp : p g = false) (hq : ∀ f, q f = (p f || decide (f = g))) : ∀ k, xcnt q k = xcnt p k + (if g < k then 1 else 0) := by
  intro k
  induction k with
  | zero => rfl
  | succ k ih =>
    unfold xcnt
    rw [ih, hq k]
    by_cases c : k = g
    · subst c
      rw [hp, decide_eq_true rfl, if_neg (show ¬ k < k from Nat.lt_irrefl k), if_pos (show k < k + 1 by omega)]
      simp
    · rw [decide_eq_false c, Bool.or_false]
      by_cases c2 : g < k
      · rw [if_pos c2, if_pos (show g < k + 1 by omega)]
        by_cases c3 : p k = true
        · rw [if_pos c3, if_pos c3]
        · rw [if_neg c3, if_neg c3]
      · rw [if_neg c2, if_neg (show ¬ g < k + 1 by omega)]
        by_cases c3 : p k = true
        · rw [if_pos c3, if_pos c3]
        · rw [if_neg c3, if_neg c3]
theorem gm_cnt : ∀ (P : List Nat), P.Nodup → (∀ f, f ∈ P → f < 14) → xcnt (xb (gm P)) 14 = P.length := by
  intro P
  induction P with
  | nil =>
    intro _ _
    have : ∀ k, xcnt (xb (gm [])) k = 0 := by
      intro k
      induction k with
      | zero => rfl
      | succ k ih => unfold xcnt; rw [ih, show gm [] = 0 from rfl, xb_0]; rfl
    exact this 14
  | cons g P ih =>
    intro hn hl
    rw [List.nodup_cons] at hn
    have h32 : ∀ f, f ∈ P → f < 32 := fun f hf => by have := hl f (List.mem_cons_of_mem _ hf); omega
    have hg := hl g List.mem_cons_self
    have e1 : xcnt (xb (gm (g :: P))) 14 = xcnt (fun f => decide (f ∈ P) || decide (f = g)) 14 := xcnt_congr 14 (fun f hf => by
      rw [gm_b (fun x hx => by have := hl x hx; omega) (by omega)]
      by_cases c : f = g
      · rw [decide_eq_true (c ▸ List.mem_cons_self), decide_eq_true c, Bool.or_true]
      · rw [decide_eq_false c, Bool.or_false]
        by_cases c2 : f ∈ P
        · rw [decide_eq_true c2, decide_eq_true (List.mem_cons_of_mem _ c2)]
        · rw [decide_eq_false c2, decide_eq_false (fun q => by rcases List.mem_cons.mp q with q | q; exact c q; exact c2 q)])
    have e2 := xcnt_put (p := fun f => decide (f ∈ P)) (q := fun f => decide (f ∈ P) || decide (f = g)) (g := g) (decide_eq_false hn.1) (fun f => rfl) 14
    have e3 : xcnt (fun f => decide (f ∈ P)) 14 = xcnt (xb (gm P)) 14 := xcnt_congr 14 (fun f hf => by rw [gm_b h32 (by omega)])
    rw [e1, e2, e3, ih hn.2 (fun f hf => hl f (List.mem_cons_of_mem _ hf)), if_pos hg]
    rfl
variable {n m : Nat} {e l : Nat → Nat}
theorem c_N_step {a v : Nat} {P : List Nat} {i : Int32} {on bk co wy : Nat → Int32} (G : gG e l m n) (ha : a < n) (hP : gp e m gT a v P) (hN : xNet h n m (gfr e) (gto e) (gln l) on bk co wy) (k : Q (.inl (some (.int (xpw P 0 i)))) (h, ks, fl)) :
    xG xs LS (d + 2) 51 (0, xm_entry xP 51 [.ref 1, .int (gm P), .int (nI a), .int i], []) (h, ks, fl) Q := by
  show xG xs LS (d + 2) 51 (0, [some (.ref 1), some (.int (gm P)), some (.int (nI a)), some (.int i), none, none, none, none], []) (h, ks, fl) Q
  have hm := G.1
  have hn := G.2.1
  have hlen := gp_len (fun f hf => ⟨(G.2.2 f hf).1, (G.2.2 f hf).2.1⟩) hP.1 hP.2 ha
  have h14 : ∀ f, f ∈ P → f < 14 := fun f hf => by have := (gw_mem P a v hP.1 f hf).1; omega
  have hlow : xlow 14 (gm P) := gm_low (by omega) h14
  have hcnt := gm_cnt P (gp_nodup P a v hP) h14
  have hN0 := hN
  obtain ⟨f1, f2, f3, f4, f5, f6, f7, f8⟩ := hN
  have none_ : xpw P 0 i = -1 → xG xs LS (d + 2) 51 (12, [some (.ref 1), some (.int (gm P)), some (.int (nI a)), some (.int i), none, none, none, none], []) (h, ks, fl) Q := by
    intro q
    rw [q] at k
    refine xg_iconst (v := (-1)) xa_N_step_12 (by decide) ?_
    refine xg_ireturn xa_N_step_13  ?_
    exact k
  refine xg_iload_n xa_N_step_0 rfl ?_
  refine xg_if_lt xa_N_step_1 (fun c => none_ (xpw_neg c P 0 (by omega))) (fun c1 => ?_)
  obtain ⟨j, hj, rfl⟩ := nI_of c1
  refine xg_iload_n xa_N_step_4 rfl ?_
  refine xg_iload_n xa_N_step_5 rfl ?_
  refine xg_callS1 xa_N_step_6 ⟨Nat.le_of_ble_eq_true rfl, Nat.le_of_ble_eq_true rfl, rfl⟩ rfl rfl ?_
  refine c_J_bitCount hlow ?_
  refine xK1_c ?_
  rw [hcnt]
  refine xg_icmp_lt xa_N_step_9 (fun c9 => ?_) (fun c9 => none_ ?_)
  · have hjl : j < P.length := (nI_ltI hj (by omega)).mp c9
    have hget := xpw_get P 0 j (by omega) (by omega)
    rw [Nat.zero_add] at hget
    rw [hget, List.getElem?_eq_getElem hjl] at k
    have k : Q (.inl (some (.int (nI P[j])))) (h, ks, fl) := k
    have loop : ∀ r S u q, u < n → gp e m gT u v S → q + r = j → S = P.drop q → xG xs LS (d + 2) 51 (33, [some (.ref 1), some (.int (gm P)), some (.int (nI a)), some (.int (nI j)), some (.int (gm S)), some (.int (nI u)), some (.int (xo (xfst (xtch (gfr e) (gto e) (gm S) (nI u)) m 0))), some (.int (nI q))], []) (h, ks, fl) Q := by
      intro r
      induction r with
      | zero =>
        intro S u q hu hS hq hSd
        have hqj : q = j := by omega
        subst hqj
        rw [List.drop_eq_getElem_cons hjl] at hSd
        rw [hSd] at hS ⊢
        rw [g_touch G hu hS]
        refine xg_iload xa_N_step_33 rfl ?_
        refine xg_iload_n xa_N_step_35 rfl ?_
        refine xg_icmp_ge xa_N_step_36 (fun _ => ?_) (fun c => absurd (nI_le (Nat.le_refl _) (by omega)) c)
        refine xg_iload xa_N_step_80 rfl ?_
        refine xg_ireturn xa_N_step_82  ?_
        exact k
      | succ r ih =>
        intro S u q hu hS hq hSd
        have hql : q < P.length := by omega
        rw [List.drop_eq_getElem_cons hql] at hSd
        generalize P[q] = f at *
        generalize hS2 : P.drop (q + 1) = S2 at *
        rw [hSd] at hS ⊢
        have hfm := hS.1.1
        have hnd := gp_nodup _ _ _ hS
        rw [List.nodup_cons] at hnd
        have hS2p : gp e m gT (xoth e f u) v S2 := by
          have q2 : (u :: gv e (xoth e f u) S2).Nodup := hS.2
          rw [List.nodup_cons] at q2
          exact ⟨hS.1.2.2.2, q2.2⟩
        have hg32 := gp_32 G hS.1
        rw [g_touch G hu hS]
        show xG xs LS (d + 2) 51 (33, [some (.ref 1), some (.int (gm P)), some (.int (nI a)), some (.int (nI j)), some (.int (gm (f :: S2))), some (.int (nI u)), some (.int (nI f)), some (.int (nI q))], []) (h, ks, fl) Q
        refine xg_iload xa_N_step_33 rfl ?_
        refine xg_iload_n xa_N_step_35 rfl ?_
        refine xg_icmp_ge xa_N_step_36 (fun c => absurd c (nI_ge (by omega) (by omega))) (fun _ => ?_)
        refine xg_iload xa_N_step_39 rfl ?_
        refine xg_iconst (v := (-1)) xa_N_step_41 (by decide) ?_
        refine xg_icmp_eq xa_N_step_42 (fun c => absurd c (nI_m1 (by omega))) (fun _ => ?_)
        refine xg_iload xa_N_step_45 rfl ?_
        refine xg_iconst (v := 1) xa_N_step_47 (by decide) ?_
        refine xg_iload xa_N_step_48 rfl ?_
        refine xg_ishl xa_N_step_50 rfl ?_
        refine xg_ixor xa_N_step_51 (gm_tail hg32 hnd.1) ?_
        refine xg_istore (L' := [_, _, _, _, _, _, _, _]) xa_N_step_52 (Nat.le_of_ble_eq_true rfl) rfl ?_
        refine xg_aload_n xa_N_step_54 rfl ?_
        refine xg_iload xa_N_step_55 rfl ?_
        refine xg_iload xa_N_step_57 rfl ?_
        refine xg_callV1 xa_N_step_59 ⟨Nat.le_of_ble_eq_true rfl, Nat.le_of_ble_eq_true rfl, rfl⟩ rfl rfl (by assumption) ?_
        refine c_N_otherEnd hN0 (by omega) ?_
        refine xK1_c ?_
        rw [g_oth G hfm hu]
        refine xg_istore (L' := [_, _, _, _, _, _, _, _]) xa_N_step_62 (Nat.le_of_ble_eq_true rfl) rfl ?_
        refine xg_aload_n xa_N_step_64 rfl ?_
        refine xg_iload xa_N_step_65 rfl ?_
        refine xg_iload xa_N_step_67 rfl ?_
        refine xg_callV1 xa_N_step_69 ⟨Nat.le_of_ble_eq_true rfl, Nat.le_of_ble_eq_true rfl, rfl⟩ rfl rfl (by assumption) ?_
        refine c_N_touching hN0 hm ?_
        refine xK1_c ?_
        refine xg_istore (L' := [_, _, _, _, _, _, _, _]) xa_N_step_72 (Nat.le_of_ble_eq_true rfl) rfl ?_
        refine xg_iinc (L' := [_, _, _, _, _, _, _, _]) xa_N_step_74 rfl (xi_inc _) rfl ?_
        refine xg_goto xa_N_step_77 ?_
        exact ih S2 (xoth e f u) (q + 1) (g_xlt G hfm) hS2p (by omega) hS2.symm
    refine xg_iload_n xa_N_step_14 rfl ?_
    refine xg_istore (L' := [_, _, _, _, _, _, _, _]) xa_N_step_15 (Nat.le_of_ble_eq_true rfl) rfl ?_
    refine xg_iload_n xa_N_step_17 rfl ?_
    refine xg_istore (L' := [_, _, _, _, _, _, _, _]) xa_N_step_18 (Nat.le_of_ble_eq_true rfl) rfl ?_
    refine xg_aload_n xa_N_step_20 rfl ?_
    refine xg_iload xa_N_step_21 rfl ?_
    refine xg_iload xa_N_step_23 rfl ?_
    refine xg_callV1 xa_N_step_25 ⟨Nat.le_of_ble_eq_true rfl, Nat.le_of_ble_eq_true rfl, rfl⟩ rfl rfl (by assumption) ?_
    refine c_N_touching hN0 hm ?_
    refine xK1_c ?_
    refine xg_istore (L' := [_, _, _, _, _, _, _, _]) xa_N_step_28 (Nat.le_of_ble_eq_true rfl) rfl ?_
    refine xg_iconst (v := 0) xa_N_step_30 (by decide) ?_
    refine xg_istore (L' := [_, _, _, _, _, _, _, _]) xa_N_step_31 (Nat.le_of_ble_eq_true rfl) rfl ?_
    exact loop j P a 0 ha hP (by omega) rfl
  · have hjl : P.length ≤ j := by
      apply Classical.byContradiction
      intro q
      exact c9 (nI_lt (by omega) (by omega))
    by_cases hb : j < 2 ^ 31 - 1000
    · have hget := xpw_get P 0 j (by omega) hb
      rw [Nat.zero_add] at hget
      rw [hget, List.getElem?_eq_none hjl]
    · have big : ∀ P k, k + P.length < 1000 → xpw P k (nI j) = -1 := by
        intro P
        induction P with
        | nil => intro k _; rfl
        | cons f P ih =>
          intro k hk
          unfold xpw
          rw [if_neg (fun q => by have := (nI_eq (by simp at hk; omega) hj).mp q; simp at hk; omega)]
          exact ih (k + 1) (by simp at hk; omega)
      exact big P 0 (by omega)
variable {Mc : Int32} {Mn : Nat} {Mm : Nat} {Mh : Int32} {Mp : Nat} {Mfw : Int32} {Mfs : Int32} {Me : Nat → Nat} {Ml : Nat → Nat} {Mbr : Nat → Bool} {Mlk : Nat → Bool} {Mt : Nat → Bool} {Mg : Nat → Bool} {Ma : Nat → Nat} {Mb : Nat → Nat} {Mw : Nat → Nat} {Mwk : Nat → Int32} {Msp : Nat → Int32} {Mon : Nat → Int32} {Mct : Nat → Int32} {MS : Nat → Int32} {MZ : Nat → Int32} {MA : Nat → Nat} {MN : Nat → Nat}
theorem c_F_path {x i : Int32} {sp : Bool} {PL : Nat → List Nat} (I : xIn Mn Mm Mh Me Ml Mt Mg Ma Mb Mw Mwk Msp Mon Mct) (hPL : ∀ c, c < 12 → Mt c = true → ∃ v, gp Me Mm gT (Ma c) v (PL c) ∧ (if sp = true then Msp c else Mwk c) = gm (PL c)) (hC : xCS h Mn Mm Mh Me Ml Mbr Mlk Mt Mg Ma Mb Mw Mwk Msp Mon Mct)
    (k1 : cd_conn Mt x = 1 → Q (.inr h.length) (h ++ [.inr (5, [])], ks + 6, true))
    (k0 : cd_conn Mt x = 0 → ∀ c fl', c < 12 → x = nI c → Mt c = true → Q (.inl (some (.int (xpw (PL c) 0 i)))) (h, ks, fl')) :
    xG xs LS (d + 6) 50 (0, xm_entry xP 50 [.ref 0, .int x, .int (xz sp), .int i], []) (h, ks, true) Q := by
  show xG xs LS (d + 6) 50 (0, [some (.ref 0), some (.int x), some (.int (xz sp)), some (.int i), none], []) (h, ks, true) Q
  obtain ⟨cut, lk, K, hF, R⟩ := hC
  obtain ⟨f0, ⟨on, bk, co, wy, fN⟩, ⟨fa, f9, fj⟩, fK⟩ := id hF
  obtain ⟨f1, f2, f3, f4, f5, f6, f7, f8⟩ := id fN
  unfold cd_conn at k1 k0
  refine xg_aload_n xa_F_path_0 rfl ?_
  refine xg_iload_n xa_F_path_1 rfl ?_
  refine xg_cVT xa_F_path_2 ⟨Nat.le_of_ble_eq_true rfl, Nat.le_of_ble_eq_true rfl, rfl⟩ rfl rfl (by assumption) ?_
  refine c_F_requireConnection hF (fun q => ?_) (fun q => ?_)
  · rw [r_nC R] at q
    exact xKX_up (xlast _ _) (by decide +kernel) (by decide +kernel) (k1 (if_pos q))
  · rw [r_nC R] at q
    refine xKX_n ?_
    rw [if_neg (by rw [q]; decide)] at k0
    obtain ⟨c, hc, rfl, ht⟩ := xi_c q
    obtain ⟨v, hv1, hv2⟩ := hPL c hc ht
    have kk := fun fl' => k0 rfl c fl' hc rfl ht
    obtain ⟨ha, _⟩ := I.2.2.2 c hc ht
    have hfc := fj c hc
    have hcc := fK c hc
    rw [R.2.2.2 c hc ht] at hcc
    show xG xs LS (d + 6) 50 (5, [some (.ref 0), some (.int (nI c)), some (.int (xz sp)), some (.int i), none], []) (h, ks, true) Q
    have go_ : ∀ fl', xG xs LS (d + 6) 50 (34, [some (.ref 0), some (.int (nI c)), some (.int (xz sp)), some (.int i), some (.ref (10 + c))], [.int (gm (PL c)), .ref 1]) (h, ks, fl') Q := by
      intro fl'
      refine xg_aload xa_F_path_34 rfl ?_
      refine xg_getfield xa_F_path_36 (by assumption) rfl ?_
      refine xg_iload_n xa_F_path_39 rfl ?_
      refine xg_callV1 xa_F_path_40 ⟨Nat.le_of_ble_eq_true rfl, Nat.le_of_ble_eq_true rfl, rfl⟩ rfl rfl (by assumption) ?_
      refine c_N_step I.1 ha hv1 fN ?_
      refine xK1_c ?_
      refine xg_ireturn xa_F_path_43  ?_
      exact kk _
    refine xg_aload_n xa_F_path_5 rfl ?_
    refine xg_getfield xa_F_path_6 (by assumption) rfl ?_
    refine xg_iload_n xa_F_path_9 rfl ?_
    refine xg_aald_n xa_F_path_10 (by assumption) rfl (by assumption) (by decide) (by assumption) ?_
    refine xg_astore (L' := [_, _, _, _, _]) xa_F_path_11 (Nat.le_of_ble_eq_true rfl) rfl ?_
    refine xg_aload_n xa_F_path_13 rfl ?_
    refine xg_getfield xa_F_path_14 (by assumption) rfl ?_
    refine xg_iload_n xa_F_path_17 rfl ?_
    refine xg_if_eq xa_F_path_18 (fun z => ?_) (fun z => ?_)
    · rw [(xz0 _).mp z] at hv2
      have hv2 : Mwk c = gm (PL c) := hv2
      rw [← hv2] at go_
      refine xg_aload xa_F_path_29 rfl ?_
      refine xg_getfield xa_F_path_31 (by assumption) rfl ?_
      exact go_ _
    · rw [xz1 z] at hv2
      have hv2 : Msp c = gm (PL c) := hv2
      rw [← hv2] at go_
      refine xg_aload xa_F_path_21 rfl ?_
      refine xg_getfield xa_F_path_23 (by assumption) rfl ?_
      refine xg_goto xa_F_path_26 ?_
      exact go_ _
theorem xl_tl {f : Nat} {p : List Nat} (hp : ∀ g, g ∈ f :: p → g < 32) (hf : ¬ f ∈ p) : gm (f :: p) &&& (xbt f ^^^ (-1)) = gm p := by
  refine xb_ext (fun g hg => ?_)
  have hf32 := hp f List.mem_cons_self
  rw [xb_and _ _ hg, xb_not _ hg, gm_b hp hg, gm_b (fun g hg => hp g (List.mem_cons_of_mem _ hg)) hg, xb_bt hg hf32]
  by_cases c : g = f
  · subst c
    rw [decide_eq_true (rfl : g = g), decide_eq_false hf]
    simp
  · rw [decide_eq_false c]
    by_cases c2 : g ∈ p
    · rw [decide_eq_true (List.mem_cons_of_mem _ c2), decide_eq_true c2]
      rfl
    · rw [decide_eq_false (fun q => by rcases List.mem_cons.mp q with q | q; exact c q; exact c2 q), decide_eq_false c2]
      rfl
theorem c_M_path {x i : Int32} {sp : Bool} {PL : Nat → List Nat} (I : xIn Mn Mm Mh Me Ml Mt Mg Ma Mb Mw Mwk Msp Mon Mct) (hPL : ∀ c, c < 12 → Mt c = true → ∃ v, gp Me Mm gT (Ma c) v (PL c) ∧ (if sp = true then Msp c else Mwk c) = gm (PL c)) (hM : xMs h Mc Mn Mm Mh Me Ml Mbr Mlk Mt Mg Ma Mb Mw Mwk Msp Mon Mct)
    (k1 : cd_conn Mt x = 1 → ∀ h' fl', xMs h' 1 Mn Mm Mh Me Ml Mbr Mlk Mt Mg Ma Mb Mw Mwk Msp Mon Mct → xS h h' 22 40 → Q (.inl (some (.int 0))) (h', ks, fl'))
    (k0 : cd_conn Mt x = 0 → ∀ c h' fl', c < 12 → x = nI c → Mt c = true → xMs h' 0 Mn Mm Mh Me Ml Mbr Mlk Mt Mg Ma Mb Mw Mwk Msp Mon Mct → xS h h' 22 40 → Q (.inl (some (.int (xpw (PL c) 0 i)))) (h', ks, fl')) :
    xG xs LS (d + 2) 97 (0, xm_entry xP 97 [.ref 22, .int x, .int (xz sp), .int i], []) (h, ks, fl) Q := by
  show xG xs LS (d + 2) 97 (0, [some (.ref 22), some (.int x), some (.int (xz sp)), some (.int i), none, none, none, none], []) (h, ks, fl) Q
  obtain ⟨Mp, Mfw, Mfs, MS, MZ, MA, MN, hM, hA, hN⟩ := hM
  have G := I.1
  have hE := I.2.2.1
  have hm := G.1
  have hn7 := G.2.1
  obtain ⟨g22, g23, g24, g25, g26, g27, g28, g29, g30, g31, g32, g33, g34, g35, g36, g37, g38, g39⟩ := id hM
  unfold cd_conn at k1 k0
  refine xg_aload_n xa_M_path_0 rfl ?_
  refine xg_aload_n xa_M_path_1 rfl ?_
  refine xg_iload_n xa_M_path_2 rfl ?_
  refine xg_callV1 xa_M_path_3 ⟨Nat.le_of_ble_eq_true rfl, Nat.le_of_ble_eq_true rfl, rfl⟩ rfl rfl (by assumption) ?_
  refine c_M_noConnection hM ?_
  refine xK1_c ?_
  refine xg_if_eq xa_M_path_6 (fun c6 => ?_) (fun c6 => ?_)
  · have hf := (xz0 _).mp c6
    clear c6
    obtain ⟨c, hc, rfl, ht⟩ := xi_c hf
    obtain ⟨v, hv1, hv2⟩ := hPL c hc ht
    obtain ⟨ha, _⟩ := I.2.2.2 c hc ht
    rw [if_neg (by rw [hf]; decide)] at k0
    refine xg_iconst (v := 0) xa_M_path_13 (by decide) ?_
    refine xg_putf (fs' := [_, _, _, _, _, _, _, _, _, _, _, _, _, _, _, _, _, _, _, _, _, _, _, _]) xa_M_path_14 (by assumption) (Nat.le_of_ble_eq_true rfl) rfl rfl (fun h14 u14 => ?_)
    have hM1 := xMd_o (Mc' := 0) hM u14
    obtain ⟨g22, g23, g24, g25, g26, g27, g28, g29, g30, g31, g32, g33, g34, g35, g36, g37, g38, g39⟩ := id hM1
    have kk := fun fl' => k0 rfl c h14 fl' hc rfl ht ⟨_, _, _, _, _, _, _, hM1, hA, hN⟩ (u14.toS (by decide) (by decide))
    clear k0 k1
    refine xg_aload_n xa_M_path_17 rfl ?_
    refine xg_getfield xa_M_path_18 (by assumption) rfl ?_
    refine xg_if_le xa_M_path_21 (fun _ => ?_) (fun z => absurd (by decide) z)
    have eqn : ∀ j u, u < 7 → (nI (Me j) = nI u ↔ Me j = u) := fun j u hu => nI_eq (by have := hE j; omega) (by omega)
    have hlenP := gp_len (fun f hf => ⟨(G.2.2 f hf).1, (G.2.2 f hf).2.1⟩) hv1.1 hv1.2 ha
    have loop : ∀ S u q fl' j7, u < Mn → gp Me Mm gT u v S → q + S.length < 100 → (∀ fl', Q (.inl (some (.int (xpw S q i)))) (h14, ks, fl')) → xG xs LS (d + 2) 97 (58, [some (.ref 22), some (.int (nI c)), some (.int (xz sp)), some (.int i), some (.int (gm S)), some (.int (nI u)), some (.int (nI q)), j7], []) (h14, ks, fl') Q := by
      intro S
      induction S with
      | nil =>
        intro u q fl' j7 hu hS hq kz
        refine xg_iload xa_M_path_58 rfl ?_
        refine xg_if_eq xa_M_path_60 (fun _ => ?_) (fun z => absurd rfl z)
        refine xg_iconst (v := (-1)) xa_M_path_177 (by decide) ?_
        refine xg_ireturn xa_M_path_178  ?_
        exact kz _
      | cons f S ih =>
        intro u q fl' j7 hu hS hq kz
        have h32 := gp_32 G hS.1
        have hne : ¬ gm (f :: S) = 0 := gm_ne h32 (fun z => by cases z)
        have hfm := hS.1.1
        have hf14 : f < 14 := by omega
        have hnd := gp_nodup _ _ _ hS
        rw [List.nodup_cons] at hnd
        have hSv : (u :: gv Me (xoth Me f u) S).Nodup := hS.2
        rw [List.nodup_cons] at hSv
        have e1 : Me (2 * f) < Mn := (G.2.2 f hfm).1
        unfold xpw at kz
        -- behind the search
        have behind : ∀ fl', xG xs LS (d + 2) 97 (112, [some (.ref 22), some (.int (nI c)), some (.int (xz sp)), some (.int i), some (.int (gm (f :: S))), some (.int (nI u)), some (.int (nI q)), some (.int (nI f))], []) (h14, ks, fl') Q := by
          intro fl'
          refine xg_iload xa_M_path_112 rfl ?_
          refine xg_iload_n xa_M_path_114 rfl ?_
          refine xg_icmp_ne xa_M_path_115 (fun z => ?_) (fun z => ?_)
          · rw [if_neg z] at kz
            have i1 : 2 * f < 28 := by omega
            have i2 : 2 * f + 1 < 28 := by omega
            have rest_ : ∀ fl', xG xs LS (d + 2) 97 (158, [some (.ref 22), some (.int (nI c)), some (.int (xz sp)), some (.int i), some (.int (gm (f :: S))), some (.int (nI u)), some (.int (nI q)), some (.int (nI f))], [.int (nI (xoth Me f u))]) (h14, ks, fl') Q := by
              intro fl'
              refine xg_istore (L' := [_, _, _, _, _, _, _, _]) xa_M_path_158 (Nat.le_of_ble_eq_true rfl) rfl ?_
              refine xg_iload xa_M_path_160 rfl ?_
              refine xg_iconst (v := 1) xa_M_path_162 (by decide) ?_
              refine xg_iload xa_M_path_163 rfl ?_
              refine xg_ishl xa_M_path_165 rfl ?_
              refine xg_iconst (v := (-1)) xa_M_path_166 (by decide) ?_
              refine xg_ixor xa_M_path_167 rfl ?_
              refine xg_iand xa_M_path_168 (xl_tl h32 hnd.1) ?_
              refine xg_istore (L' := [_, _, _, _, _, _, _, _]) xa_M_path_169 (Nat.le_of_ble_eq_true rfl) rfl ?_
              refine xg_iinc (L' := [_, _, _, _, _, _, _, _]) xa_M_path_171 rfl (xi_inc _) rfl ?_
              refine xg_goto xa_M_path_174 ?_
              exact ih (xoth Me f u) (q + 1) _ _ (g_xlt G hfm) ⟨hS.1.2.2.2, hSv.2⟩ (by simp at hq; omega) kz
            refine xg_aload_n xa_M_path_121 rfl ?_
            refine xg_getfield xa_M_path_122 (by assumption) rfl ?_
            refine xg_iconst (v := 2) xa_M_path_125 (by decide) ?_
            refine xg_iload xa_M_path_126 rfl ?_
            refine xg_imul xa_M_path_128 (xi_2f f) ?_
            refine xg_iald_n xa_M_path_129 (by assumption) rfl (by assumption) (by decide) ?_
            refine xg_iload xa_M_path_130 rfl ?_
            refine xg_icmp_ne xa_M_path_132 (fun y => ?_) (fun y => ?_)
            · have ho : xoth Me f u = Me (2 * f) := if_neg (fun w => y ((eqn _ _ (by omega)).mpr w))
              rw [ho] at rest_
              refine xg_aload_n xa_M_path_149 rfl ?_
              refine xg_getfield xa_M_path_150 (by assumption) rfl ?_
              refine xg_iconst (v := 2) xa_M_path_153 (by decide) ?_
              refine xg_iload xa_M_path_154 rfl ?_
              refine xg_imul xa_M_path_156 (xi_2f f) ?_
              refine xg_iald_n xa_M_path_157 (by assumption) rfl (by assumption) (by decide) ?_
              exact rest_ _
            · have ho : xoth Me f u = Me (2 * f + 1) := if_pos ((eqn _ _ (by omega)).mp y)
              rw [ho] at rest_
              refine xg_aload_n xa_M_path_135 rfl ?_
              refine xg_getfield xa_M_path_136 (by assumption) rfl ?_
              refine xg_iconst (v := 2) xa_M_path_139 (by decide) ?_
              refine xg_iload xa_M_path_140 rfl ?_
              refine xg_imul xa_M_path_142 (xi_2f f) ?_
              refine xg_iconst (v := 1) xa_M_path_143 (by decide) ?_
              refine xg_iadd xa_M_path_144 (nI_1 _) ?_
              refine xg_iald_n xa_M_path_145 (by assumption) rfl (by assumption) (by decide) ?_
              refine xg_goto xa_M_path_146 ?_
              exact rest_ _
          · rw [if_pos z] at kz
            refine xg_iload xa_M_path_118 rfl ?_
            refine xg_ireturn xa_M_path_120  ?_
            exact kz _
        have inner : ∀ r g fl', g + r = f → xG xs LS (d + 2) 97 (66, [some (.ref 22), some (.int (nI c)), some (.int (xz sp)), some (.int i), some (.int (gm (f :: S))), some (.int (nI u)), some (.int (nI q)), some (.int (nI g))], []) (h14, ks, fl') Q := by
          intro r
          induction r with
          | zero =>
            intro g fl' hg
            have hgf : g = f := by omega
            subst hgf
            have i1 : 2 * g < 28 := by omega
            have i2 : 2 * g + 1 < 28 := by omega
            have hb : xb (gm (g :: S)) g = true := by rw [gm_b h32 (by omega)]; exact decide_eq_true List.mem_cons_self
            refine xg_iload xa_M_path_66 rfl ?_
            refine xg_iload xa_M_path_68 rfl ?_
            refine xg_callS1 xa_M_path_70 ⟨Nat.le_of_ble_eq_true rfl, Nat.le_of_ble_eq_true rfl, rfl⟩ rfl rfl ?_
            refine c_M_bit (by omega) ?_
            refine xK1_c ?_
            rw [hb]
            refine xg_if_eq xa_M_path_73 (fun z => absurd z (by decide)) (fun _ => ?_)
            refine xg_aload_n xa_M_path_76 rfl ?_
            refine xg_getfield xa_M_path_77 (by assumption) rfl ?_
            refine xg_iconst (v := 2) xa_M_path_80 (by decide) ?_
            refine xg_iload xa_M_path_81 rfl ?_
            refine xg_imul xa_M_path_83 (xi_2f g) ?_
            refine xg_iald_n xa_M_path_84 (by assumption) rfl (by assumption) (by decide) ?_
            refine xg_iload xa_M_path_85 rfl ?_
            refine xg_icmp_eq xa_M_path_87 (fun _ => behind _) (fun z => ?_)
            refine xg_aload_n xa_M_path_90 rfl ?_
            refine xg_getfield xa_M_path_91 (by assumption) rfl ?_
            refine xg_iconst (v := 2) xa_M_path_94 (by decide) ?_
            refine xg_iload xa_M_path_95 rfl ?_
            refine xg_imul xa_M_path_97 (xi_2f g) ?_
            refine xg_iconst (v := 1) xa_M_path_98 (by decide) ?_
            refine xg_iadd xa_M_path_99 (nI_1 _) ?_
            refine xg_iald_n xa_M_path_100 (by assumption) rfl (by assumption) (by decide) ?_
            refine xg_iload xa_M_path_101 rfl ?_
            refine xg_icmp_eq xa_M_path_103 (fun _ => behind _) (fun y => ?_)
            exfalso
            rcases hS.1.2.2.1 with w | w
            · exact z ((eqn _ _ (by omega)).mpr w)
            · exact y ((eqn _ _ (by omega)).mpr w)
          | succ r ihr =>
            intro g fl' hg
            have hg14 : g < 14 := by omega
            have i1 : 2 * g < 28 := by omega
            have i2 : 2 * g + 1 < 28 := by omega
            have nx : ∀ fl', xG xs LS (d + 2) 97 (106, [some (.ref 22), some (.int (nI c)), some (.int (xz sp)), some (.int i), some (.int (gm (f :: S))), some (.int (nI u)), some (.int (nI q)), some (.int (nI g))], []) (h14, ks, fl') Q := by
              intro fl'
              refine xg_iinc (L' := [_, _, _, _, _, _, _, _]) xa_M_path_106 rfl (xi_inc _) rfl ?_
              refine xg_goto xa_M_path_109 ?_
              exact ihr (g + 1) _ (by omega)
            refine xg_iload xa_M_path_66 rfl ?_
            refine xg_iload xa_M_path_68 rfl ?_
            refine xg_callS1 xa_M_path_70 ⟨Nat.le_of_ble_eq_true rfl, Nat.le_of_ble_eq_true rfl, rfl⟩ rfl rfl ?_
            refine c_M_bit (by omega) ?_
            refine xK1_c ?_
            rw [gm_b h32 (by omega)]
            refine xg_if_eq xa_M_path_73 (fun _ => nx _) (fun z => ?_)
            have hgin : g ∈ f :: S := of_decide_eq_true (xz1 z)
            have hgS : g ∈ S := by
              rcases List.mem_cons.mp hgin with w | w
              · omega
              · exact w
            have no : ∀ y, (y = Me (2 * g) ∨ y = Me (2 * g + 1)) → ¬ y = u := fun y hy w => hSv.1 (w ▸ gv_ends S _ v hS.1.2.2.2 g hgS y hy)
            refine xg_aload_n xa_M_path_76 rfl ?_
            refine xg_getfield xa_M_path_77 (by assumption) rfl ?_
            refine xg_iconst (v := 2) xa_M_path_80 (by decide) ?_
            refine xg_iload xa_M_path_81 rfl ?_
            refine xg_imul xa_M_path_83 (xi_2f g) ?_
            refine xg_iald_n xa_M_path_84 (by assumption) rfl (by assumption) (by decide) ?_
            refine xg_iload xa_M_path_85 rfl ?_
            refine xg_icmp_eq xa_M_path_87 (fun y => absurd ((eqn _ _ (by omega)).mp y) (no _ (Or.inl rfl))) (fun _ => ?_)
            refine xg_aload_n xa_M_path_90 rfl ?_
            refine xg_getfield xa_M_path_91 (by assumption) rfl ?_
            refine xg_iconst (v := 2) xa_M_path_94 (by decide) ?_
            refine xg_iload xa_M_path_95 rfl ?_
            refine xg_imul xa_M_path_97 (xi_2f g) ?_
            refine xg_iconst (v := 1) xa_M_path_98 (by decide) ?_
            refine xg_iadd xa_M_path_99 (nI_1 _) ?_
            refine xg_iald_n xa_M_path_100 (by assumption) rfl (by assumption) (by decide) ?_
            refine xg_iload xa_M_path_101 rfl ?_
            refine xg_icmp_eq xa_M_path_103 (fun y => absurd ((eqn _ _ (by omega)).mp y) (no _ (Or.inr rfl))) (fun _ => nx _)
        refine xg_iload xa_M_path_58 rfl ?_
        refine xg_if_eq xa_M_path_60 (fun z => absurd z hne) (fun _ => ?_)
        refine xg_iconst (v := 0) xa_M_path_63 (by decide) ?_
        refine xg_istore (L' := [_, _, _, _, _, _, _, _]) xa_M_path_64 (Nat.le_of_ble_eq_true rfl) rfl ?_
        exact inner f 0 _ (by omega)
    have go_ : ∀ fl', xG xs LS (d + 2) 97 (45, [some (.ref 22), some (.int (nI c)), some (.int (xz sp)), some (.int i), none, none, none, none], [.int (gm (PL c))]) (h14, ks, fl') Q := by
      intro fl'
      refine xg_istore (L' := [_, _, _, _, _, _, _, _]) xa_M_path_45 (Nat.le_of_ble_eq_true rfl) rfl ?_
      refine xg_aload_n xa_M_path_47 rfl ?_
      refine xg_getfield xa_M_path_48 (by assumption) rfl ?_
      refine xg_iload_n xa_M_path_51 rfl ?_
      refine xg_iald_n xa_M_path_52 (by assumption) rfl (by assumption) (by decide) ?_
      refine xg_istore (L' := [_, _, _, _, _, _, _, _]) xa_M_path_53 (Nat.le_of_ble_eq_true rfl) rfl ?_
      refine xg_iconst (v := 0) xa_M_path_55 (by decide) ?_
      refine xg_istore (L' := [_, _, _, _, _, _, _, _]) xa_M_path_56 (Nat.le_of_ble_eq_true rfl) rfl ?_
      exact loop (PL c) (Ma c) 0 _ _ ha hv1 (by omega) kk
    refine xg_iload_n xa_M_path_26 rfl ?_
    refine xg_if_eq xa_M_path_27 (fun z => ?_) (fun z => ?_)
    · rw [(xz0 _).mp z] at hv2
      have hv2 : Mwk c = gm (PL c) := hv2
      rw [← hv2] at go_
      refine xg_aload_n xa_M_path_39 rfl ?_
      refine xg_getfield xa_M_path_40 (by assumption) rfl ?_
      refine xg_iload_n xa_M_path_43 rfl ?_
      refine xg_iald_n xa_M_path_44 (by assumption) rfl (by assumption) (by decide) ?_
      exact go_ _
    · rw [xz1 z] at hv2
      have hv2 : Msp c = gm (PL c) := hv2
      rw [← hv2] at go_
      refine xg_aload_n xa_M_path_30 rfl ?_
      refine xg_getfield xa_M_path_31 (by assumption) rfl ?_
      refine xg_iload_n xa_M_path_34 rfl ?_
      refine xg_iald_n xa_M_path_35 (by assumption) rfl (by assumption) (by decide) ?_
      refine xg_goto xa_M_path_36 ?_
      exact go_ _
  · rw [if_pos (xz1 c6)] at k1
    refine xg_iconst (v := 1) xa_M_path_9 (by decide) ?_
    refine xg_goto xa_M_path_10 ?_
    refine xg_putf (fs' := [_, _, _, _, _, _, _, _, _, _, _, _, _, _, _, _, _, _, _, _, _, _, _, _]) xa_M_path_14 (by assumption) (Nat.le_of_ble_eq_true rfl) rfl rfl (fun h14 u14 => ?_)
    have hM1 := xMd_o (Mc' := 1) hM u14
    obtain ⟨g22, g23, g24, g25, g26, g27, g28, g29, g30, g31, g32, g33, g34, g35, g36, g37, g38, g39⟩ := id hM1
    refine xg_aload_n xa_M_path_17 rfl ?_
    refine xg_getfield xa_M_path_18 (by assumption) rfl ?_
    refine xg_if_le xa_M_path_21 (fun z => absurd z (by decide)) (fun _ => ?_)
    refine xg_iconst (v := 0) xa_M_path_24 (by decide) ?_
    refine xg_ireturn xa_M_path_25  ?_
    exact k1 rfl _ _ ⟨_, _, _, _, _, _, _, hM1, hA, hN⟩ (u14.toS (by decide) (by decide))
end XPA
