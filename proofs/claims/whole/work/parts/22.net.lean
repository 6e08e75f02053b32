/-! 22.net: the net's search. -/
theorem xa_N_extend_0 : xm_at xP 32 0 = some (0, .iload 4, 0, 0, 0, 0) := by decide +kernel
theorem xa_N_extend_2 : xm_at xP 32 2 = some (2, .ldc 75, 2147483647, 0, 0, 0) := by decide +kernel
theorem xa_N_extend_4 : xm_at xP 32 4 = some (4, .if_icmp .eq 32, 36, 0, 0, 0) := by decide +kernel
theorem xa_N_extend_7 : xm_at xP 32 7 = some (7, .aload_n 0, 0, 0, 0, 0) := by decide +kernel
theorem xa_N_extend_8 : xm_at xP 32 8 = some (8, .getfield 31, 1, 7, 0, 0) := by decide +kernel
theorem xa_N_extend_11 : xm_at xP 32 11 = some (11, .iload_n 1, 0, 0, 0, 0) := by decide +kernel
theorem xa_N_extend_12 : xm_at xP 32 12 = some (12, .iaload, 0, 0, 0, 0) := by decide +kernel
theorem xa_N_extend_13 : xm_at xP 32 13 = some (13, .ldc 75, 2147483647, 0, 0, 0) := by decide +kernel
theorem xa_N_extend_15 : xm_at xP 32 15 = some (15, .if_icmp .eq 21, 36, 0, 0, 0) := by decide +kernel
theorem xa_N_extend_18 : xm_at xP 32 18 = some (18, .aload_n 0, 0, 0, 0, 0) := by decide +kernel
theorem xa_N_extend_19 : xm_at xP 32 19 = some (19, .getfield 31, 1, 7, 0, 0) := by decide +kernel
theorem xa_N_extend_22 : xm_at xP 32 22 = some (22, .iload_n 1, 0, 0, 0, 0) := by decide +kernel
theorem xa_N_extend_23 : xm_at xP 32 23 = some (23, .iaload, 0, 0, 0, 0) := by decide +kernel
theorem xa_N_extend_24 : xm_at xP 32 24 = some (24, .iload 4, 0, 0, 0, 0) := by decide +kernel
theorem xa_N_extend_26 : xm_at xP 32 26 = some (26, .iadd, 0, 0, 0, 0) := by decide +kernel
theorem xa_N_extend_27 : xm_at xP 32 27 = some (27, .aload_n 0, 0, 0, 0, 0) := by decide +kernel
theorem xa_N_extend_28 : xm_at xP 32 28 = some (28, .getfield 31, 1, 7, 0, 0) := by decide +kernel
theorem xa_N_extend_31 : xm_at xP 32 31 = some (31, .iload_n 3, 0, 0, 0, 0) := by decide +kernel
theorem xa_N_extend_32 : xm_at xP 32 32 = some (32, .iaload, 0, 0, 0, 0) := by decide +kernel
theorem xa_N_extend_33 : xm_at xP 32 33 = some (33, .if_icmp .lt 5, 38, 0, 0, 0) := by decide +kernel
theorem xa_N_extend_36 : xm_at xP 32 36 = some (36, .iconst 0, 0, 0, 0, 0) := by decide +kernel
theorem xa_N_extend_37 : xm_at xP 32 37 = some (37, .ireturn, 0, 0, 0, 1) := by decide +kernel
theorem xa_N_extend_38 : xm_at xP 32 38 = some (38, .aload_n 0, 0, 0, 0, 0) := by decide +kernel
theorem xa_N_extend_39 : xm_at xP 32 39 = some (39, .getfield 31, 1, 7, 0, 0) := by decide +kernel
theorem xa_N_extend_42 : xm_at xP 32 42 = some (42, .iload_n 3, 0, 0, 0, 0) := by decide +kernel
theorem xa_N_extend_43 : xm_at xP 32 43 = some (43, .aload_n 0, 0, 0, 0, 0) := by decide +kernel
theorem xa_N_extend_44 : xm_at xP 32 44 = some (44, .getfield 31, 1, 7, 0, 0) := by decide +kernel
theorem xa_N_extend_47 : xm_at xP 32 47 = some (47, .iload_n 1, 0, 0, 0, 0) := by decide +kernel
theorem xa_N_extend_48 : xm_at xP 32 48 = some (48, .iaload, 0, 0, 0, 0) := by decide +kernel
theorem xa_N_extend_49 : xm_at xP 32 49 = some (49, .iload 4, 0, 0, 0, 0) := by decide +kernel
theorem xa_N_extend_51 : xm_at xP 32 51 = some (51, .iadd, 0, 0, 0, 0) := by decide +kernel
theorem xa_N_extend_52 : xm_at xP 32 52 = some (52, .iastore, 0, 0, 0, 0) := by decide +kernel
theorem xa_N_extend_53 : xm_at xP 32 53 = some (53, .aload_n 0, 0, 0, 0, 0) := by decide +kernel
theorem xa_N_extend_54 : xm_at xP 32 54 = some (54, .getfield 34, 1, 8, 0, 0) := by decide +kernel
theorem xa_N_extend_57 : xm_at xP 32 57 = some (57, .iload_n 3, 0, 0, 0, 0) := by decide +kernel
theorem xa_N_extend_58 : xm_at xP 32 58 = some (58, .aload_n 0, 0, 0, 0, 0) := by decide +kernel
theorem xa_N_extend_59 : xm_at xP 32 59 = some (59, .getfield 34, 1, 8, 0, 0) := by decide +kernel
theorem xa_N_extend_62 : xm_at xP 32 62 = some (62, .iload_n 1, 0, 0, 0, 0) := by decide +kernel
theorem xa_N_extend_63 : xm_at xP 32 63 = some (63, .iaload, 0, 0, 0, 0) := by decide +kernel
theorem xa_N_extend_64 : xm_at xP 32 64 = some (64, .iconst 1, 0, 0, 0, 0) := by decide +kernel
theorem xa_N_extend_65 : xm_at xP 32 65 = some (65, .iload_n 2, 0, 0, 0, 0) := by decide +kernel
theorem xa_N_extend_66 : xm_at xP 32 66 = some (66, .ishl, 0, 0, 0, 0) := by decide +kernel
theorem xa_N_extend_67 : xm_at xP 32 67 = some (67, .ior, 0, 0, 0, 0) := by decide +kernel
theorem xa_N_extend_68 : xm_at xP 32 68 = some (68, .iastore, 0, 0, 0, 0) := by decide +kernel
theorem xa_N_extend_69 : xm_at xP 32 69 = some (69, .iconst 1, 0, 0, 0, 0) := by decide +kernel
theorem xa_N_extend_70 : xm_at xP 32 70 = some (70, .ireturn, 0, 0, 0, 1) := by decide +kernel
theorem xa_J_fill_0 : xm_at xP 31 0 = some (0, .iconst 0, 0, 0, 0, 0) := by decide +kernel
theorem xa_J_fill_1 : xm_at xP 31 1 = some (1, .istore_n 2, 0, 0, 0, 0) := by decide +kernel
theorem xa_J_fill_2 : xm_at xP 31 2 = some (2, .aload_n 0, 0, 0, 0, 0) := by decide +kernel
theorem xa_J_fill_3 : xm_at xP 31 3 = some (3, .arraylength, 0, 0, 0, 0) := by decide +kernel
theorem xa_J_fill_4 : xm_at xP 31 4 = some (4, .istore_n 3, 0, 0, 0, 0) := by decide +kernel
theorem xa_J_fill_5 : xm_at xP 31 5 = some (5, .iload_n 2, 0, 0, 0, 0) := by decide +kernel
theorem xa_J_fill_6 : xm_at xP 31 6 = some (6, .iload_n 3, 0, 0, 0, 0) := by decide +kernel
theorem xa_J_fill_7 : xm_at xP 31 7 = some (7, .if_icmp .ge 13, 20, 0, 0, 0) := by decide +kernel
theorem xa_J_fill_10 : xm_at xP 31 10 = some (10, .aload_n 0, 0, 0, 0, 0) := by decide +kernel
theorem xa_J_fill_11 : xm_at xP 31 11 = some (11, .iload_n 2, 0, 0, 0, 0) := by decide +kernel
theorem xa_J_fill_12 : xm_at xP 31 12 = some (12, .iload_n 1, 0, 0, 0, 0) := by decide +kernel
theorem xa_J_fill_13 : xm_at xP 31 13 = some (13, .iastore, 0, 0, 0, 0) := by decide +kernel
theorem xa_J_fill_14 : xm_at xP 31 14 = some (14, .iinc 2 1, 0, 0, 0, 0) := by decide +kernel
theorem xa_J_fill_17 : xm_at xP 31 17 = some (17, .goto (-12), 5, 0, 0, 0) := by decide +kernel
theorem xa_J_fill_20 : xm_at xP 31 20 = some (20, .return_, 0, 0, 0, 0) := by decide +kernel
theorem xa_N_cheapestWay_0 : xm_at xP 30 0 = some (0, .aload_n 0, 0, 0, 0, 0) := by decide +kernel
theorem xa_N_cheapestWay_1 : xm_at xP 30 1 = some (1, .getfield 31, 1, 7, 0, 0) := by decide +kernel
theorem xa_N_cheapestWay_4 : xm_at xP 30 4 = some (4, .ldc 75, 2147483647, 0, 0, 0) := by decide +kernel
theorem xa_N_cheapestWay_6 : xm_at xP 30 6 = some (6, .invokestatic 76, 31, 2, 0, 0) := by decide +kernel
theorem xa_N_cheapestWay_9 : xm_at xP 30 9 = some (9, .aload_n 0, 0, 0, 0, 0) := by decide +kernel
theorem xa_N_cheapestWay_10 : xm_at xP 30 10 = some (10, .getfield 34, 1, 8, 0, 0) := by decide +kernel
theorem xa_N_cheapestWay_13 : xm_at xP 30 13 = some (13, .iconst 0, 0, 0, 0, 0) := by decide +kernel
theorem xa_N_cheapestWay_14 : xm_at xP 30 14 = some (14, .invokestatic 76, 31, 2, 0, 0) := by decide +kernel
theorem xa_N_cheapestWay_17 : xm_at xP 30 17 = some (17, .aload_n 0, 0, 0, 0, 0) := by decide +kernel
theorem xa_N_cheapestWay_18 : xm_at xP 30 18 = some (18, .getfield 31, 1, 7, 0, 0) := by decide +kernel
theorem xa_N_cheapestWay_21 : xm_at xP 30 21 = some (21, .iload_n 1, 0, 0, 0, 0) := by decide +kernel
theorem xa_N_cheapestWay_22 : xm_at xP 30 22 = some (22, .iconst 0, 0, 0, 0, 0) := by decide +kernel
theorem xa_N_cheapestWay_23 : xm_at xP 30 23 = some (23, .iastore, 0, 0, 0, 0) := by decide +kernel
theorem xa_N_cheapestWay_24 : xm_at xP 30 24 = some (24, .iconst 1, 0, 0, 0, 0) := by decide +kernel
theorem xa_N_cheapestWay_25 : xm_at xP 30 25 = some (25, .istore_n 3, 0, 0, 0, 0) := by decide +kernel
theorem xa_N_cheapestWay_26 : xm_at xP 30 26 = some (26, .iconst 1, 0, 0, 0, 0) := by decide +kernel
theorem xa_N_cheapestWay_27 : xm_at xP 30 27 = some (27, .istore 4, 0, 0, 0, 0) := by decide +kernel
theorem xa_N_cheapestWay_29 : xm_at xP 30 29 = some (29, .iload 4, 0, 0, 0, 0) := by decide +kernel
theorem xa_N_cheapestWay_31 : xm_at xP 30 31 = some (31, .aload_n 0, 0, 0, 0, 0) := by decide +kernel
theorem xa_N_cheapestWay_32 : xm_at xP 30 32 = some (32, .getfield 9, 1, 0, 0, 0) := by decide +kernel
theorem xa_N_cheapestWay_35 : xm_at xP 30 35 = some (35, .if_icmp .ge 97, 132, 0, 0, 0) := by decide +kernel
theorem xa_N_cheapestWay_38 : xm_at xP 30 38 = some (38, .iload_n 3, 0, 0, 0, 0) := by decide +kernel
theorem xa_N_cheapestWay_39 : xm_at xP 30 39 = some (39, .ifCond .eq 93, 132, 0, 0, 0) := by decide +kernel
theorem xa_N_cheapestWay_42 : xm_at xP 30 42 = some (42, .iconst 0, 0, 0, 0, 0) := by decide +kernel
theorem xa_N_cheapestWay_43 : xm_at xP 30 43 = some (43, .istore_n 3, 0, 0, 0, 0) := by decide +kernel
theorem xa_N_cheapestWay_44 : xm_at xP 30 44 = some (44, .iconst 0, 0, 0, 0, 0) := by decide +kernel
theorem xa_N_cheapestWay_45 : xm_at xP 30 45 = some (45, .istore 5, 0, 0, 0, 0) := by decide +kernel
theorem xa_N_cheapestWay_47 : xm_at xP 30 47 = some (47, .iload 5, 0, 0, 0, 0) := by decide +kernel
theorem xa_N_cheapestWay_49 : xm_at xP 30 49 = some (49, .aload_n 0, 0, 0, 0, 0) := by decide +kernel
theorem xa_N_cheapestWay_50 : xm_at xP 30 50 = some (50, .getfield 37, 1, 1, 0, 0) := by decide +kernel
theorem xa_N_cheapestWay_53 : xm_at xP 30 53 = some (53, .if_icmp .ge 73, 126, 0, 0, 0) := by decide +kernel
theorem xa_N_cheapestWay_56 : xm_at xP 30 56 = some (56, .aload_n 0, 0, 0, 0, 0) := by decide +kernel
theorem xa_N_cheapestWay_57 : xm_at xP 30 57 = some (57, .aload_n 0, 0, 0, 0, 0) := by decide +kernel
theorem xa_N_cheapestWay_58 : xm_at xP 30 58 = some (58, .getfield 15, 1, 2, 0, 0) := by decide +kernel
theorem xa_N_cheapestWay_61 : xm_at xP 30 61 = some (61, .iload 5, 0, 0, 0, 0) := by decide +kernel
theorem xa_N_cheapestWay_63 : xm_at xP 30 63 = some (63, .iaload, 0, 0, 0, 0) := by decide +kernel
theorem xa_N_cheapestWay_64 : xm_at xP 30 64 = some (64, .iload 5, 0, 0, 0, 0) := by decide +kernel
theorem xa_N_cheapestWay_66 : xm_at xP 30 66 = some (66, .aload_n 0, 0, 0, 0, 0) := by decide +kernel
theorem xa_N_cheapestWay_67 : xm_at xP 30 67 = some (67, .getfield 19, 1, 3, 0, 0) := by decide +kernel
theorem xa_N_cheapestWay_70 : xm_at xP 30 70 = some (70, .iload 5, 0, 0, 0, 0) := by decide +kernel
theorem xa_N_cheapestWay_72 : xm_at xP 30 72 = some (72, .iaload, 0, 0, 0, 0) := by decide +kernel
theorem xa_N_cheapestWay_73 : xm_at xP 30 73 = some (73, .aload_n 0, 0, 0, 0, 0) := by decide +kernel
theorem xa_N_cheapestWay_74 : xm_at xP 30 74 = some (74, .getfield 25, 1, 5, 0, 0) := by decide +kernel
theorem xa_N_cheapestWay_77 : xm_at xP 30 77 = some (77, .iload 5, 0, 0, 0, 0) := by decide +kernel
theorem xa_N_cheapestWay_79 : xm_at xP 30 79 = some (79, .iaload, 0, 0, 0, 0) := by decide +kernel
theorem xa_N_cheapestWay_80 : xm_at xP 30 80 = some (80, .invokevirtual 82, 32, 5, 1, 0) := by decide +kernel
theorem xa_N_cheapestWay_83 : xm_at xP 30 83 = some (83, .ifCond .eq 5, 88, 0, 0, 0) := by decide +kernel
theorem xa_N_cheapestWay_86 : xm_at xP 30 86 = some (86, .iconst 1, 0, 0, 0, 0) := by decide +kernel
theorem xa_N_cheapestWay_87 : xm_at xP 30 87 = some (87, .istore_n 3, 0, 0, 0, 0) := by decide +kernel
theorem xa_N_cheapestWay_88 : xm_at xP 30 88 = some (88, .aload_n 0, 0, 0, 0, 0) := by decide +kernel
theorem xa_N_cheapestWay_89 : xm_at xP 30 89 = some (89, .aload_n 0, 0, 0, 0, 0) := by decide +kernel
theorem xa_N_cheapestWay_90 : xm_at xP 30 90 = some (90, .getfield 19, 1, 3, 0, 0) := by decide +kernel
theorem xa_N_cheapestWay_93 : xm_at xP 30 93 = some (93, .iload 5, 0, 0, 0, 0) := by decide +kernel
theorem xa_N_cheapestWay_95 : xm_at xP 30 95 = some (95, .iaload, 0, 0, 0, 0) := by decide +kernel
theorem xa_N_cheapestWay_96 : xm_at xP 30 96 = some (96, .iload 5, 0, 0, 0, 0) := by decide +kernel
theorem xa_N_cheapestWay_98 : xm_at xP 30 98 = some (98, .aload_n 0, 0, 0, 0, 0) := by decide +kernel
theorem xa_N_cheapestWay_99 : xm_at xP 30 99 = some (99, .getfield 15, 1, 2, 0, 0) := by decide +kernel
theorem xa_N_cheapestWay_102 : xm_at xP 30 102 = some (102, .iload 5, 0, 0, 0, 0) := by decide +kernel
theorem xa_N_cheapestWay_104 : xm_at xP 30 104 = some (104, .iaload, 0, 0, 0, 0) := by decide +kernel
theorem xa_N_cheapestWay_105 : xm_at xP 30 105 = some (105, .aload_n 0, 0, 0, 0, 0) := by decide +kernel
theorem xa_N_cheapestWay_106 : xm_at xP 30 106 = some (106, .getfield 28, 1, 6, 0, 0) := by decide +kernel
theorem xa_N_cheapestWay_109 : xm_at xP 30 109 = some (109, .iload 5, 0, 0, 0, 0) := by decide +kernel
theorem xa_N_cheapestWay_111 : xm_at xP 30 111 = some (111, .iaload, 0, 0, 0, 0) := by decide +kernel
theorem xa_N_cheapestWay_112 : xm_at xP 30 112 = some (112, .invokevirtual 82, 32, 5, 1, 0) := by decide +kernel
theorem xa_N_cheapestWay_115 : xm_at xP 30 115 = some (115, .ifCond .eq 5, 120, 0, 0, 0) := by decide +kernel
theorem xa_N_cheapestWay_118 : xm_at xP 30 118 = some (118, .iconst 1, 0, 0, 0, 0) := by decide +kernel
theorem xa_N_cheapestWay_119 : xm_at xP 30 119 = some (119, .istore_n 3, 0, 0, 0, 0) := by decide +kernel
theorem xa_N_cheapestWay_120 : xm_at xP 30 120 = some (120, .iinc 5 1, 0, 0, 0, 0) := by decide +kernel
theorem xa_N_cheapestWay_123 : xm_at xP 30 123 = some (123, .goto (-76), 47, 0, 0, 0) := by decide +kernel
theorem xa_N_cheapestWay_126 : xm_at xP 30 126 = some (126, .iinc 4 1, 0, 0, 0, 0) := by decide +kernel
theorem xa_N_cheapestWay_129 : xm_at xP 30 129 = some (129, .goto (-100), 29, 0, 0, 0) := by decide +kernel
theorem xa_N_cheapestWay_132 : xm_at xP 30 132 = some (132, .aload_n 0, 0, 0, 0, 0) := by decide +kernel
theorem xa_N_cheapestWay_133 : xm_at xP 30 133 = some (133, .getfield 34, 1, 8, 0, 0) := by decide +kernel
theorem xa_N_cheapestWay_136 : xm_at xP 30 136 = some (136, .iload_n 2, 0, 0, 0, 0) := by decide +kernel
theorem xa_N_cheapestWay_137 : xm_at xP 30 137 = some (137, .iaload, 0, 0, 0, 0) := by decide +kernel
theorem xa_N_cheapestWay_138 : xm_at xP 30 138 = some (138, .ireturn, 0, 0, 0, 0) := by decide +kernel
theorem xa_N_openBothWays_0 : xm_at xP 27 0 = some (0, .iconst 0, 0, 0, 0, 0) := by decide +kernel
theorem xa_N_openBothWays_1 : xm_at xP 27 1 = some (1, .istore_n 2, 0, 0, 0, 0) := by decide +kernel
theorem xa_N_openBothWays_2 : xm_at xP 27 2 = some (2, .iload_n 2, 0, 0, 0, 0) := by decide +kernel
theorem xa_N_openBothWays_3 : xm_at xP 27 3 = some (3, .aload_n 0, 0, 0, 0, 0) := by decide +kernel
theorem xa_N_openBothWays_4 : xm_at xP 27 4 = some (4, .getfield 37, 1, 1, 0, 0) := by decide +kernel
theorem xa_N_openBothWays_7 : xm_at xP 27 7 = some (7, .if_icmp .ge 42, 49, 0, 0, 0) := by decide +kernel
theorem xa_N_openBothWays_10 : xm_at xP 27 10 = some (10, .iload_n 1, 0, 0, 0, 0) := by decide +kernel
theorem xa_N_openBothWays_11 : xm_at xP 27 11 = some (11, .iload_n 2, 0, 0, 0, 0) := by decide +kernel
theorem xa_N_openBothWays_12 : xm_at xP 27 12 = some (12, .invokestatic 40, 28, 2, 0, 0) := by decide +kernel
theorem xa_N_openBothWays_15 : xm_at xP 27 15 = some (15, .ifCond .eq 11, 26, 0, 0, 0) := by decide +kernel
theorem xa_N_openBothWays_18 : xm_at xP 27 18 = some (18, .aload_n 0, 0, 0, 0, 0) := by decide +kernel
theorem xa_N_openBothWays_19 : xm_at xP 27 19 = some (19, .iload_n 2, 0, 0, 0, 0) := by decide +kernel
theorem xa_N_openBothWays_20 : xm_at xP 27 20 = some (20, .invokevirtual 72, 29, 2, 1, 0) := by decide +kernel
theorem xa_N_openBothWays_23 : xm_at xP 27 23 = some (23, .goto 5, 28, 0, 0, 0) := by decide +kernel
theorem xa_N_openBothWays_26 : xm_at xP 27 26 = some (26, .ldc 75, 2147483647, 0, 0, 0) := by decide +kernel
theorem xa_N_openBothWays_28 : xm_at xP 27 28 = some (28, .istore_n 3, 0, 0, 0, 0) := by decide +kernel
theorem xa_N_openBothWays_29 : xm_at xP 27 29 = some (29, .aload_n 0, 0, 0, 0, 0) := by decide +kernel
theorem xa_N_openBothWays_30 : xm_at xP 27 30 = some (30, .getfield 25, 1, 5, 0, 0) := by decide +kernel
theorem xa_N_openBothWays_33 : xm_at xP 27 33 = some (33, .iload_n 2, 0, 0, 0, 0) := by decide +kernel
theorem xa_N_openBothWays_34 : xm_at xP 27 34 = some (34, .iload_n 3, 0, 0, 0, 0) := by decide +kernel
theorem xa_N_openBothWays_35 : xm_at xP 27 35 = some (35, .iastore, 0, 0, 0, 0) := by decide +kernel
theorem xa_N_openBothWays_36 : xm_at xP 27 36 = some (36, .aload_n 0, 0, 0, 0, 0) := by decide +kernel
theorem xa_N_openBothWays_37 : xm_at xP 27 37 = some (37, .getfield 28, 1, 6, 0, 0) := by decide +kernel
theorem xa_N_openBothWays_40 : xm_at xP 27 40 = some (40, .iload_n 2, 0, 0, 0, 0) := by decide +kernel
theorem xa_N_openBothWays_41 : xm_at xP 27 41 = some (41, .iload_n 3, 0, 0, 0, 0) := by decide +kernel
theorem xa_N_openBothWays_42 : xm_at xP 27 42 = some (42, .iastore, 0, 0, 0, 0) := by decide +kernel
theorem xa_N_openBothWays_43 : xm_at xP 27 43 = some (43, .iinc 2 1, 0, 0, 0, 0) := by decide +kernel
theorem xa_N_openBothWays_46 : xm_at xP 27 46 = some (46, .goto (-44), 2, 0, 0, 0) := by decide +kernel
theorem xa_N_openBothWays_49 : xm_at xP 27 49 = some (49, .return_, 0, 0, 0, 0) := by decide +kernel
section XN
variable {xs : Nat → Int32} {LS d : Nat} {ks : Nat} {fl : Bool} {Q : (Option Value ⊕ Nat) → xm_S → Prop}
variable {sites fibres : Nat} {fr to ln on bk co wy : Nat → Int32}
/-- h' is h but for the cells lo .. hi - 1 -/
def xS (h h' : List va_E) (lo hi : Nat) : Prop := h'.length = h.length ∧ ∀ j, (j < lo ∨ hi ≤ j) → h'[j]? = h[j]?
theorem xS.rf {h : List va_E} {lo hi : Nat} : xS h h lo hi := ⟨rfl, fun _ _ => rfl⟩
theorem xS.tr {h h1 h2 : List va_E} {lo hi : Nat} (u : xS h h1 lo hi) (v : xS h1 h2 lo hi) : xS h h2 lo hi := ⟨v.1.trans u.1, fun j hj => (v.2 j hj).trans (u.2 j hj)⟩
theorem xU.toS {h h' : List va_E} {r lo hi : Nat} {c : va_E} (u : xU h h' r c) (h1 : lo ≤ r) (h2 : r < hi) : xS h h' lo hi := ⟨u.1, fun j hj => u.2.2 j (by omega)⟩
theorem xS.up {h h' : List va_E} {lo hi lo' hi' : Nat} (u : xS h h' lo hi) (h1 : lo' ≤ lo) (h2 : hi ≤ hi') : xS h h' lo' hi' := ⟨u.1, fun j hj => u.2 j (by omega)⟩
/-- bit f -/
def xbt (f : Nat) : Int32 := (1 : Int32) <<< (nI f &&& 31)
/-- one fibre tried from a to b -/
def xext (co wy : Nat → Int32) (a f b : Nat) (price : Int32) : Bool × (Nat → Int32) × (Nat → Int32) :=
  if price = 2147483647 ∨ co a = 2147483647 ∨ ¬ co a + price < co b then (false, co, wy) else (true, upd co b (co a + price), upd wy b (wy a ||| xbt f))
theorem c_N_extend {h : List va_E} {a f b : Nat} {price : Int32} (hN : xNet h sites fibres fr to ln on bk co wy) (ha : a < 7) (hb : b < 7)
    (k : ∀ h' f', xNet h' sites fibres fr to ln on bk (xext co wy a f b price).2.1 (xext co wy a f b price).2.2 → xS h h' 5 9 → Q (.inl (some (.int (xz (xext co wy a f b price).1)))) (h', ks, f')) : xG xs LS d 32 (0, xm_entry xP 32 [.ref 1, .int (nI a), .int (nI f), .int (nI b), .int price], []) (h, ks, fl) Q := by
  have hN0 := hN
  obtain ⟨h1, h2, h3, h4, h5, h6, h7, h8⟩ := hN
  show xG xs LS d 32 (0, [some (.ref 1), some (.int (nI a)), some (.int (nI f)), some (.int (nI b)), some (.int price)], []) (h, ks, fl) Q
  have no : (price = 2147483647 ∨ co a = 2147483647 ∨ ¬ co a + price < co b) → xG xs LS d 32 (36, [some (.ref 1), some (.int (nI a)), some (.int (nI f)), some (.int (nI b)), some (.int price)], []) (h, ks, fl) Q := by
    intro hn
    unfold xext at k
    rw [if_pos hn] at k
    refine xg_iconst (v := 0) xa_N_extend_36 (by decide) ?_
    exact xg_zreturn xa_N_extend_37 (Or.inl rfl) (k _ _ hN0 xS.rf)
  refine xg_iload xa_N_extend_0 rfl ?_
  refine xg_ldc (v := 2147483647) xa_N_extend_2 (by decide) ?_
  refine xg_icmp_eq xa_N_extend_4 (fun hc => no (Or.inl hc)) (fun c1 => ?_)
  refine xg_aload_n xa_N_extend_7 rfl ?_
  refine xg_getfield xa_N_extend_8 (by assumption) rfl ?_
  refine xg_iload_n xa_N_extend_11 rfl ?_
  refine xg_iald_n xa_N_extend_12 (by assumption) rfl (by assumption) (by decide) ?_
  refine xg_ldc (v := 2147483647) xa_N_extend_13 (by decide) ?_
  refine xg_icmp_eq xa_N_extend_15 (fun hc => no (Or.inr (Or.inl hc))) (fun c2 => ?_)
  refine xg_aload_n xa_N_extend_18 rfl ?_
  refine xg_getfield xa_N_extend_19 (by assumption) rfl ?_
  refine xg_iload_n xa_N_extend_22 rfl ?_
  refine xg_iald_n xa_N_extend_23 (by assumption) rfl (by assumption) (by decide) ?_
  refine xg_iload xa_N_extend_24 rfl ?_
  refine xg_iadd xa_N_extend_26 rfl ?_
  refine xg_aload_n xa_N_extend_27 rfl ?_
  refine xg_getfield xa_N_extend_28 (by assumption) rfl ?_
  refine xg_iload_n xa_N_extend_31 rfl ?_
  refine xg_iald_n xa_N_extend_32 (by assumption) rfl (by assumption) (by decide) ?_
  refine xg_icmp_lt xa_N_extend_33 (fun c3 => ?_) (fun hc => no (Or.inr (Or.inr hc)))
  unfold xext at k
  rw [if_neg (fun q => by
    rcases q with q | q | q
    · exact c1 q
    · exact c2 q
    · exact q c3)] at k
  refine xg_aload_n xa_N_extend_38 rfl ?_
  refine xg_getfield xa_N_extend_39 (by assumption) rfl ?_
  refine xg_iload_n xa_N_extend_42 rfl ?_
  refine xg_aload_n xa_N_extend_43 rfl ?_
  refine xg_getfield xa_N_extend_44 (by assumption) rfl ?_
  refine xg_iload_n xa_N_extend_47 rfl ?_
  refine xg_iald_n xa_N_extend_48 (by assumption) rfl (by assumption) (by decide) ?_
  refine xg_iload xa_N_extend_49 rfl ?_
  refine xg_iadd xa_N_extend_51 rfl ?_
  refine xg_iastf_n xa_N_extend_52 (by assumption) rfl (by assumption) (by decide) (fun h52 u52 => ?_)
  have h1 := (u52.2.2 1 (by decide)).trans h1
  have h7' := u52.2.1
  have h8 := (u52.2.2 8 (by decide)).trans h8
  refine xg_aload_n xa_N_extend_53 rfl ?_
  refine xg_getfield xa_N_extend_54 (by assumption) rfl ?_
  refine xg_iload_n xa_N_extend_57 rfl ?_
  refine xg_aload_n xa_N_extend_58 rfl ?_
  refine xg_getfield xa_N_extend_59 (by assumption) rfl ?_
  refine xg_iload_n xa_N_extend_62 rfl ?_
  refine xg_iald_n xa_N_extend_63 (by assumption) rfl (by assumption) (by decide) ?_
  refine xg_iconst (v := 1) xa_N_extend_64 (by decide) ?_
  refine xg_iload_n xa_N_extend_65 rfl ?_
  refine xg_ishl xa_N_extend_66 rfl ?_
  refine xg_ior xa_N_extend_67 rfl ?_
  refine xg_iastf_n xa_N_extend_68 (by assumption) rfl (by assumption) (by decide) (fun h68 u68 => ?_)
  refine xg_iconst (v := 1) xa_N_extend_69 (by decide) ?_
  refine xg_zreturn xa_N_extend_70 (Or.inr rfl) (k _ _ ⟨?_, ?_, ?_, ?_, ?_, ?_, ?_, ?_⟩ ((u52.toS (by decide) (by decide)).tr (u68.toS (by decide) (by decide))))
  · exact (u68.2.2 1 (by decide)).trans h1
  · exact (u68.2.2 2 (by decide)).trans ((u52.2.2 2 (by decide)).trans h2)
  · exact (u68.2.2 3 (by decide)).trans ((u52.2.2 3 (by decide)).trans h3)
  · exact (u68.2.2 4 (by decide)).trans ((u52.2.2 4 (by decide)).trans h4)
  · exact (u68.2.2 5 (by decide)).trans ((u52.2.2 5 (by decide)).trans h5)
  · exact (u68.2.2 6 (by decide)).trans ((u52.2.2 6 (by decide)).trans h6)
  · exact (u68.2.2 7 (by decide)).trans h7'
  · exact u68.2.1
/-- the first n places filled -/
def xfill (f : Nat → Int32) (n : Nat) (x : Int32) : Nat → Int32 := fun j => if j < n then x else f j
theorem xfill_s (f : Nat → Int32) (n : Nat) (x : Int32) : upd (xfill f n x) n x = xfill f (n + 1) x := by
  funext j
  unfold upd xfill
  by_cases h1 : j = n
  · subst h1
    simp
  · by_cases h2 : j < n
    · rw [if_neg h1, if_pos h2, if_pos (by omega)]
    · rw [if_neg h1, if_neg h2, if_neg (by omega)]
theorem xfill_0 (f : Nat → Int32) (x : Int32) : xfill f 0 x = f := by
  funext j
  simp [xfill]
theorem c_J_fill {h : List va_E} {r n : Nat} {f : Nat → Int32} {x : Int32} (hr : h[r]? = some (.inl (0, n, .inl f))) (hn : n < 1000) (k : ∀ h' f', xU h h' r (.inl (0, n, .inl (xfill f n x))) → Q (.inl none) (h', ks, f')) : xG xs LS d 31 (0, xm_entry xP 31 [.ref r, .int x], []) (h, ks, fl) Q := by
  show xG xs LS d 31 (0, [some (.ref r), some (.int x), none, none], []) (h, ks, fl) Q
  have loop : ∀ c i h' fl', i + c = n → xU h h' r (.inl (0, n, .inl (xfill f i x))) → xG xs LS d 31 (5, [some (.ref r), some (.int x), some (.int (nI i)), some (.int (nI n))], []) (h', ks, fl') Q := by
    intro c
    induction c with
    | zero =>
      intro i h' fl' hi hu
      refine xg_iload_n xa_J_fill_5 rfl ?_
      refine xg_iload_n xa_J_fill_6 rfl ?_
      refine xg_icmp_ge xa_J_fill_7 (fun hc => ?_) (fun hc => absurd (nI_le (by omega) (by omega)) hc)
      have e : i = n := by omega
      subst e
      exact xg_return xa_J_fill_20 (k _ _ hu)
    | succ c ih =>
      intro i h' fl' hi hu
      have hr' := hu.2.1
      have hin : i < n := by omega
      refine xg_iload_n xa_J_fill_5 rfl ?_
      refine xg_iload_n xa_J_fill_6 rfl ?_
      refine xg_icmp_ge xa_J_fill_7 (fun hc => absurd hc (nI_ge (by omega) (by omega))) (fun hc => ?_)
      refine xg_aload_n xa_J_fill_10 rfl ?_
      refine xg_iload_n xa_J_fill_11 rfl ?_
      refine xg_iload_n xa_J_fill_12 rfl ?_
      refine xg_iastf_n xa_J_fill_13 hr' rfl hin (by omega) (fun h13 u13 => ?_)
      rw [xfill_s] at u13
      refine xg_iinc (L' := [_, _, _, _]) xa_J_fill_14 rfl (xi_inc _) rfl ?_
      refine xg_goto xa_J_fill_17 ?_
      exact ih (i + 1) h13 _ (by omega) (hu.trans u13)
  refine xg_iconst (v := 0) xa_J_fill_0 (by decide) ?_
  refine xg_istore_n (L' := [_, _, _, _]) xa_J_fill_1 (Nat.le_of_ble_eq_true rfl) rfl ?_
  refine xg_aload_n xa_J_fill_2 rfl ?_
  refine xg_alen (v := nI n) xa_J_fill_3 hr (by decide) rfl ?_
  refine xg_istore_n (L' := [_, _, _, _]) xa_J_fill_4 (Nat.le_of_ble_eq_true rfl) rfl ?_
  exact loop n 0 h _ (by omega) ⟨rfl, by rw [xfill_0]; exact hr, fun _ _ => rfl⟩
/-- a round over the fibres from i on -/
def xrnd (src dst : Nat → Nat) (on bk : Nat → Int32) : Nat → Nat → Bool → (Nat → Int32) → (Nat → Int32) → Bool × (Nat → Int32) × (Nat → Int32)
  | 0, _, b, co, wy => (b, co, wy)
  | n + 1, i, b, co, wy => xrnd src dst on bk n (i + 1) (b || (xext co wy (src i) i (dst i) (on i)).1 || (xext (xext co wy (src i) i (dst i) (on i)).2.1 (xext co wy (src i) i (dst i) (on i)).2.2 (dst i) i (src i) (bk i)).1)
      (xext (xext co wy (src i) i (dst i) (on i)).2.1 (xext co wy (src i) i (dst i) (on i)).2.2 (dst i) i (src i) (bk i)).2.1 (xext (xext co wy (src i) i (dst i) (on i)).2.1 (xext co wy (src i) i (dst i) (on i)).2.2 (dst i) i (src i) (bk i)).2.2
/-- so many rounds, while something gets better -/
def xbf (src dst : Nat → Nat) (on bk : Nat → Int32) (fibres : Nat) : Nat → Bool → (Nat → Int32) → (Nat → Int32) → (Nat → Int32) × (Nat → Int32)
  | 0, _, co, wy => (co, wy)
  | n + 1, b, co, wy => if b = true then xbf src dst on bk fibres n (xrnd src dst on bk fibres 0 false co wy).1 (xrnd src dst on bk fibres 0 false co wy).2.1 (xrnd src dst on bk fibres 0 false co wy).2.2 else (co, wy)
/-- the search from a -/
def xcw (src dst : Nat → Nat) (on bk : Nat → Int32) (sites fibres a : Nat) (co wy : Nat → Int32) : (Nat → Int32) × (Nat → Int32) := xbf src dst on bk fibres (sites - 1) true (upd (xfill co 7 2147483647) a 0) (xfill wy 7 0)
theorem c_N_cheapestWay {h : List va_E} {src dst : Nat → Nat} {a b : Nat} (hN : xNet h sites fibres (fun f => nI (src f)) (fun f => nI (dst f)) ln on bk co wy) (hf : fibres ≤ 14) (hs : sites ≤ 7) (hs1 : 1 ≤ sites) (hsd : ∀ f, f < fibres → src f < 7 ∧ dst f < 7) (ha : a < 7) (hb : b < 7)
    (k : ∀ h' f', xNet h' sites fibres (fun f => nI (src f)) (fun f => nI (dst f)) ln on bk (xcw src dst on bk sites fibres a co wy).1 (xcw src dst on bk sites fibres a co wy).2 → xS h h' 5 9 → Q (.inl (some (.int ((xcw src dst on bk sites fibres a co wy).2 b)))) (h', ks, f')) : xG xs LS (d + 1) 30 (0, xm_entry xP 30 [.ref 1, .int (nI a), .int (nI b)], []) (h, ks, fl) Q := by
  show xG xs LS (d + 1) 30 (0, [some (.ref 1), some (.int (nI a)), some (.int (nI b)), none, none, none], []) (h, ks, fl) Q
  have inner : ∀ n i be co wy h' fl' rd (Q' : (Option Value ⊕ Nat) → xm_S → Prop), i + n = fibres → xNet h' sites fibres (fun f => nI (src f)) (fun f => nI (dst f)) ln on bk co wy →
      (∀ h'' f'', xNet h'' sites fibres (fun f => nI (src f)) (fun f => nI (dst f)) ln on bk (xrnd src dst on bk n i be co wy).2.1 (xrnd src dst on bk n i be co wy).2.2 → xS h' h'' 5 9 → xG xs LS (d + 1) 30 (126, [some (.ref 1), some (.int (nI a)), some (.int (nI b)), some (.int (xz (xrnd src dst on bk n i be co wy).1)), some (.int (nI rd)), some (.int (nI fibres))], []) (h'', ks, f'') Q') →
      xG xs LS (d + 1) 30 (47, [some (.ref 1), some (.int (nI a)), some (.int (nI b)), some (.int (xz be)), some (.int (nI rd)), some (.int (nI i))], []) (h', ks, fl') Q' := by
    intro n
    induction n with
    | zero =>
      intro i be co wy h' fl' rd Q' hi hN kk
      have hN0 := hN
      obtain ⟨h1, h2, h3, h4, h5, h6, h7, h8⟩ := hN
      have e : i = fibres := by omega
      subst e
      refine xg_iload xa_N_cheapestWay_47 rfl ?_
      refine xg_aload_n xa_N_cheapestWay_49 rfl ?_
      refine xg_getfield xa_N_cheapestWay_50 (by assumption) rfl ?_
      refine xg_icmp_ge xa_N_cheapestWay_53 (fun hc => ?_) (fun hc => absurd (nI_le (by omega) (by omega)) hc)
      exact kk _ _ hN0 xS.rf
    | succ n ih =>
      intro i be co wy h' fl' rd Q' hi hN kk
      have hN0 := hN
      obtain ⟨h1, h2, h3, h4, h5, h6, h7, h8⟩ := hN
      have hi14 : i < 14 := by omega
      obtain ⟨s7, d7⟩ := hsd i (by omega)
      refine xg_iload xa_N_cheapestWay_47 rfl ?_
      refine xg_aload_n xa_N_cheapestWay_49 rfl ?_
      refine xg_getfield xa_N_cheapestWay_50 (by assumption) rfl ?_
      refine xg_icmp_ge xa_N_cheapestWay_53 (fun hc => absurd hc (nI_ge (by omega) (by omega))) (fun hc => ?_)
      refine xg_aload_n xa_N_cheapestWay_56 rfl ?_
      refine xg_aload_n xa_N_cheapestWay_57 rfl ?_
      refine xg_getfield xa_N_cheapestWay_58 (by assumption) rfl ?_
      refine xg_iload xa_N_cheapestWay_61 rfl ?_
      refine xg_iald_n xa_N_cheapestWay_63 (by assumption) rfl (by assumption) (by decide) ?_
      refine xg_iload xa_N_cheapestWay_64 rfl ?_
      refine xg_aload_n xa_N_cheapestWay_66 rfl ?_
      refine xg_getfield xa_N_cheapestWay_67 (by assumption) rfl ?_
      refine xg_iload xa_N_cheapestWay_70 rfl ?_
      refine xg_iald_n xa_N_cheapestWay_72 (by assumption) rfl (by assumption) (by decide) ?_
      refine xg_aload_n xa_N_cheapestWay_73 rfl ?_
      refine xg_getfield xa_N_cheapestWay_74 (by assumption) rfl ?_
      refine xg_iload xa_N_cheapestWay_77 rfl ?_
      refine xg_iald_n xa_N_cheapestWay_79 (by assumption) rfl (by assumption) (by decide) ?_
      refine xg_callV1 xa_N_cheapestWay_80 ⟨Nat.le_of_ble_eq_true rfl, Nat.le_of_ble_eq_true rfl, rfl⟩ rfl rfl (by assumption) ?_
      refine c_N_extend hN0 s7 d7 (fun hA fA hNA hSA => xK1_d ?_)
      have go : ∀ be', be' = (be || (xext co wy (src i) i (dst i) (on i)).1) → xG xs LS (d + 1) 30 (88, [some (.ref 1), some (.int (nI a)), some (.int (nI b)), some (.int (xz be')), some (.int (nI rd)), some (.int (nI i))], []) (hA, ks, fl' && fA) Q' := by
        intro be' hbe
        have hNA0 := hNA
        obtain ⟨h1, h2, h3, h4, h5, h6, h7, h8⟩ := hNA
        refine xg_aload_n xa_N_cheapestWay_88 rfl ?_
        refine xg_aload_n xa_N_cheapestWay_89 rfl ?_
        refine xg_getfield xa_N_cheapestWay_90 (by assumption) rfl ?_
        refine xg_iload xa_N_cheapestWay_93 rfl ?_
        refine xg_iald_n xa_N_cheapestWay_95 (by assumption) rfl (by assumption) (by decide) ?_
        refine xg_iload xa_N_cheapestWay_96 rfl ?_
        refine xg_aload_n xa_N_cheapestWay_98 rfl ?_
        refine xg_getfield xa_N_cheapestWay_99 (by assumption) rfl ?_
        refine xg_iload xa_N_cheapestWay_102 rfl ?_
        refine xg_iald_n xa_N_cheapestWay_104 (by assumption) rfl (by assumption) (by decide) ?_
        refine xg_aload_n xa_N_cheapestWay_105 rfl ?_
        refine xg_getfield xa_N_cheapestWay_106 (by assumption) rfl ?_
        refine xg_iload xa_N_cheapestWay_109 rfl ?_
        refine xg_iald_n xa_N_cheapestWay_111 (by assumption) rfl (by assumption) (by decide) ?_
        refine xg_callV1 xa_N_cheapestWay_112 ⟨Nat.le_of_ble_eq_true rfl, Nat.le_of_ble_eq_true rfl, rfl⟩ rfl rfl (by assumption) ?_
        refine c_N_extend hNA0 d7 s7 (fun hB fB hNB hSB => xK1_d ?_)
        have go2 : ∀ be2, be2 = (be' || (xext (xext co wy (src i) i (dst i) (on i)).2.1 (xext co wy (src i) i (dst i) (on i)).2.2 (dst i) i (src i) (bk i)).1) → xG xs LS (d + 1) 30 (120, [some (.ref 1), some (.int (nI a)), some (.int (nI b)), some (.int (xz be2)), some (.int (nI rd)), some (.int (nI i))], []) (hB, ks, fl' && fA && fB) Q' := by
          intro be2 hbe2
          refine xg_iinc (L' := [_, _, _, _, _, _]) xa_N_cheapestWay_120 rfl (xi_inc _) rfl ?_
          refine xg_goto xa_N_cheapestWay_123 ?_
          refine ih (i + 1) be2 _ _ hB _ rd Q' (by omega) hNB (fun h'' f'' hN'' hS'' => ?_)
          rw [hbe2, hbe] at hN'' ⊢
          exact kk _ _ hN'' ((hSA.tr hSB).tr hS'')
        refine xg_if_eq xa_N_cheapestWay_115 (fun hc => go2 be' ?_) (fun hc => ?_)
        · rw [(xz0 _).mp hc]; simp
        · have ht : (xext (xext co wy (src i) i (dst i) (on i)).2.1 (xext co wy (src i) i (dst i) (on i)).2.2 (dst i) i (src i) (bk i)).1 = true := by
            cases hb : (xext (xext co wy (src i) i (dst i) (on i)).2.1 (xext co wy (src i) i (dst i) (on i)).2.2 (dst i) i (src i) (bk i)).1 with
            | true => rfl
            | false => exact absurd ((xz0 _).mpr hb) hc
          refine xg_iconst (v := 1) xa_N_cheapestWay_118 (by decide) ?_
          refine xg_istore_n (L' := [_, _, _, _, _, _]) xa_N_cheapestWay_119 (Nat.le_of_ble_eq_true rfl) rfl ?_
          exact go2 true (by rw [ht]; simp)
      refine xg_if_eq xa_N_cheapestWay_83 (fun hc => go be ?_) (fun hc => ?_)
      · rw [(xz0 _).mp hc]; simp
      · have ht : (xext co wy (src i) i (dst i) (on i)).1 = true := by
          cases hb : (xext co wy (src i) i (dst i) (on i)).1 with
          | true => rfl
          | false => exact absurd ((xz0 _).mpr hb) hc
        refine xg_iconst (v := 1) xa_N_cheapestWay_86 (by decide) ?_
        refine xg_istore_n (L' := [_, _, _, _, _, _]) xa_N_cheapestWay_87 (Nat.le_of_ble_eq_true rfl) rfl ?_
        exact go true (by rw [ht]; simp)
  have outer : ∀ n rd be co wy h' fl' (j5 : Option Value), rd + n = sites → xNet h' sites fibres (fun f => nI (src f)) (fun f => nI (dst f)) ln on bk co wy → xS h h' 5 9 →
      (∀ h'' f'', xNet h'' sites fibres (fun f => nI (src f)) (fun f => nI (dst f)) ln on bk (xbf src dst on bk fibres n be co wy).1 (xbf src dst on bk fibres n be co wy).2 → xS h h'' 5 9 → Q (.inl (some (.int ((xbf src dst on bk fibres n be co wy).2 b)))) (h'', ks, f'')) →
      xG xs LS (d + 1) 30 (29, [some (.ref 1), some (.int (nI a)), some (.int (nI b)), some (.int (xz be)), some (.int (nI rd)), j5], []) (h', ks, fl') Q := by
    intro n
    induction n with
    | zero =>
      intro rd be co wy h' fl' j5 hi hN hS kk
      have hN0 := hN
      obtain ⟨h1, h2, h3, h4, h5, h6, h7, h8⟩ := hN
      refine xg_iload xa_N_cheapestWay_29 rfl ?_
      refine xg_aload_n xa_N_cheapestWay_31 rfl ?_
      refine xg_getfield xa_N_cheapestWay_32 (by assumption) rfl ?_
      refine xg_icmp_ge xa_N_cheapestWay_35 (fun hc => ?_) (fun hc => absurd (nI_le (by omega) (by omega)) hc)
      refine xg_aload_n xa_N_cheapestWay_132 rfl ?_
      refine xg_getfield xa_N_cheapestWay_133 (by assumption) rfl ?_
      refine xg_iload_n xa_N_cheapestWay_136 rfl ?_
      refine xg_iald_n xa_N_cheapestWay_137 (by assumption) rfl (by assumption) (by decide) ?_
      exact xg_ireturn xa_N_cheapestWay_138 (kk _ _ hN0 hS)
    | succ n ih =>
      intro rd be co wy h' fl' j5 hi hN hS kk
      have hN0 := hN
      obtain ⟨h1, h2, h3, h4, h5, h6, h7, h8⟩ := hN
      refine xg_iload xa_N_cheapestWay_29 rfl ?_
      refine xg_aload_n xa_N_cheapestWay_31 rfl ?_
      refine xg_getfield xa_N_cheapestWay_32 (by assumption) rfl ?_
      refine xg_icmp_ge xa_N_cheapestWay_35 (fun hc => absurd hc (nI_ge (by omega) (by omega))) (fun hc => ?_)
      refine xg_iload_n xa_N_cheapestWay_38 rfl ?_
      refine xg_if_eq xa_N_cheapestWay_39 (fun hc => ?_) (fun hc => ?_)
      · have hbe : be = false := (xz0 _).mp hc
        unfold xbf at kk
        rw [if_neg (by rw [hbe]; decide)] at kk
        refine xg_aload_n xa_N_cheapestWay_132 rfl ?_
        refine xg_getfield xa_N_cheapestWay_133 (by assumption) rfl ?_
        refine xg_iload_n xa_N_cheapestWay_136 rfl ?_
        refine xg_iald_n xa_N_cheapestWay_137 (by assumption) rfl (by assumption) (by decide) ?_
        exact xg_ireturn xa_N_cheapestWay_138 (kk _ _ hN0 hS)
      · have hbe : be = true := by
          cases be with
          | true => rfl
          | false => exact absurd rfl hc
        unfold xbf at kk
        rw [if_pos hbe] at kk
        refine xg_iconst (v := 0) xa_N_cheapestWay_42 (by decide) ?_
        refine xg_istore_n (L' := [_, _, _, _, _, _]) xa_N_cheapestWay_43 (Nat.le_of_ble_eq_true rfl) rfl ?_
        refine xg_iconst (v := 0) xa_N_cheapestWay_44 (by decide) ?_
        refine xg_istore (L' := [_, _, _, _, _, _]) xa_N_cheapestWay_45 (Nat.le_of_ble_eq_true rfl) rfl ?_
        refine inner fibres 0 false co wy h' _ rd Q (by omega) hN0 (fun h'' f'' hN'' hS'' => ?_)
        refine xg_iinc (L' := [_, _, _, _, _, _]) xa_N_cheapestWay_126 rfl (xi_inc _) rfl ?_
        refine xg_goto xa_N_cheapestWay_129 ?_
        exact ih (rd + 1) _ _ _ h'' _ _ (by omega) hN'' (hS.tr hS'') kk
  have hN0 := hN
  obtain ⟨h1, h2, h3, h4, h5, h6, h7, h8⟩ := hN
  refine xg_aload_n xa_N_cheapestWay_0 rfl ?_
  refine xg_getfield xa_N_cheapestWay_1 (by assumption) rfl ?_
  refine xg_ldc (v := 2147483647) xa_N_cheapestWay_4 (by decide) ?_
  refine xg_callS0 xa_N_cheapestWay_6 ⟨Nat.le_of_ble_eq_true rfl, Nat.le_of_ble_eq_true rfl, rfl⟩ rfl rfl ?_
  refine c_J_fill h7 (by decide) (fun hA fA uA => xK0_d ?_)
  have h1 := (uA.2.2 1 (by decide)).trans h1
  have h8 := (uA.2.2 8 (by decide)).trans h8
  refine xg_aload_n xa_N_cheapestWay_9 rfl ?_
  refine xg_getfield xa_N_cheapestWay_10 (by assumption) rfl ?_
  refine xg_iconst (v := 0) xa_N_cheapestWay_13 (by decide) ?_
  refine xg_callS0 xa_N_cheapestWay_14 ⟨Nat.le_of_ble_eq_true rfl, Nat.le_of_ble_eq_true rfl, rfl⟩ rfl rfl ?_
  refine c_J_fill h8 (by decide) (fun hB fB uB => xK0_d ?_)
  have h1 := (uB.2.2 1 (by decide)).trans h1
  have h7 := (uB.2.2 7 (by decide)).trans uA.2.1
  refine xg_aload_n xa_N_cheapestWay_17 rfl ?_
  refine xg_getfield xa_N_cheapestWay_18 (by assumption) rfl ?_
  refine xg_iload_n xa_N_cheapestWay_21 rfl ?_
  refine xg_iconst (v := 0) xa_N_cheapestWay_22 (by decide) ?_
  refine xg_iastf_n xa_N_cheapestWay_23 (by assumption) rfl (by assumption) (by decide) (fun h23 u23 => ?_)
  refine xg_iconst (v := 1) xa_N_cheapestWay_24 (by decide) ?_
  refine xg_istore_n (L' := [_, _, _, _, _, _]) xa_N_cheapestWay_25 (Nat.le_of_ble_eq_true rfl) rfl ?_
  refine xg_iconst (v := 1) xa_N_cheapestWay_26 (by decide) ?_
  refine xg_istore (L' := [_, _, _, _, _, _]) xa_N_cheapestWay_27 (Nat.le_of_ble_eq_true rfl) rfl ?_
  refine outer (sites - 1) 1 true _ _ h23 _ none (by omega) ⟨?_, ?_, ?_, ?_, ?_, ?_, ?_, ?_⟩ (((uA.toS (by decide) (by decide)).tr (uB.toS (by decide) (by decide))).tr (u23.toS (by decide) (by decide))) k
  · exact (u23.2.2 1 (by decide)).trans h1
  · exact (u23.2.2 2 (by decide)).trans ((uB.2.2 2 (by decide)).trans ((uA.2.2 2 (by decide)).trans h2))
  · exact (u23.2.2 3 (by decide)).trans ((uB.2.2 3 (by decide)).trans ((uA.2.2 3 (by decide)).trans h3))
  · exact (u23.2.2 4 (by decide)).trans ((uB.2.2 4 (by decide)).trans ((uA.2.2 4 (by decide)).trans h4))
  · exact (u23.2.2 5 (by decide)).trans ((uB.2.2 5 (by decide)).trans ((uA.2.2 5 (by decide)).trans h5))
  · exact (u23.2.2 6 (by decide)).trans ((uB.2.2 6 (by decide)).trans ((uA.2.2 6 (by decide)).trans h6))
  · exact u23.2.1
  · exact (u23.2.2 8 (by decide)).trans uB.2.1
end XN
