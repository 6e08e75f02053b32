/-! 23.net2: opening, best path, best pair. -/
theorem xa_N_openBackOnly_0 : xm_at xP 33 0 = some (0, .iload_n 1, 0, 0, 0, 0) := by decide +kernel
theorem xa_N_openBackOnly_1 : xm_at xP 33 1 = some (1, .istore_n 3, 0, 0, 0, 0) := by decide +kernel
theorem xa_N_openBackOnly_2 : xm_at xP 33 2 = some (2, .iload_n 2, 0, 0, 0, 0) := by decide +kernel
theorem xa_N_openBackOnly_3 : xm_at xP 33 3 = some (3, .istore 4, 0, 0, 0, 0) := by decide +kernel
theorem xa_N_openBackOnly_5 : xm_at xP 33 5 = some (5, .aload_n 0, 0, 0, 0, 0) := by decide +kernel
theorem xa_N_openBackOnly_6 : xm_at xP 33 6 = some (6, .iload_n 3, 0, 0, 0, 0) := by decide +kernel
theorem xa_N_openBackOnly_7 : xm_at xP 33 7 = some (7, .iload 4, 0, 0, 0, 0) := by decide +kernel
theorem xa_N_openBackOnly_9 : xm_at xP 33 9 = some (9, .invokevirtual 50, 34, 3, 1, 0) := by decide +kernel
theorem xa_N_openBackOnly_12 : xm_at xP 33 12 = some (12, .istore 5, 0, 0, 0, 0) := by decide +kernel
theorem xa_N_openBackOnly_14 : xm_at xP 33 14 = some (14, .iconst 0, 0, 0, 0, 0) := by decide +kernel
theorem xa_N_openBackOnly_15 : xm_at xP 33 15 = some (15, .istore 6, 0, 0, 0, 0) := by decide +kernel
theorem xa_N_openBackOnly_17 : xm_at xP 33 17 = some (17, .iload 6, 0, 0, 0, 0) := by decide +kernel
theorem xa_N_openBackOnly_19 : xm_at xP 33 19 = some (19, .bipush 7, 0, 0, 0, 0) := by decide +kernel
theorem xa_N_openBackOnly_21 : xm_at xP 33 21 = some (21, .if_icmp .ge 108, 129, 0, 0, 0) := by decide +kernel
theorem xa_N_openBackOnly_24 : xm_at xP 33 24 = some (24, .iload 5, 0, 0, 0, 0) := by decide +kernel
theorem xa_N_openBackOnly_26 : xm_at xP 33 26 = some (26, .iconst (-1), 0, 0, 0, 0) := by decide +kernel
theorem xa_N_openBackOnly_27 : xm_at xP 33 27 = some (27, .if_icmp .eq 102, 129, 0, 0, 0) := by decide +kernel
theorem xa_N_openBackOnly_30 : xm_at xP 33 30 = some (30, .aload_n 0, 0, 0, 0, 0) := by decide +kernel
theorem xa_N_openBackOnly_31 : xm_at xP 33 31 = some (31, .getfield 15, 1, 2, 0, 0) := by decide +kernel
theorem xa_N_openBackOnly_34 : xm_at xP 33 34 = some (34, .iload 5, 0, 0, 0, 0) := by decide +kernel
theorem xa_N_openBackOnly_36 : xm_at xP 33 36 = some (36, .iaload, 0, 0, 0, 0) := by decide +kernel
theorem xa_N_openBackOnly_37 : xm_at xP 33 37 = some (37, .iload 4, 0, 0, 0, 0) := by decide +kernel
theorem xa_N_openBackOnly_39 : xm_at xP 33 39 = some (39, .if_icmp .ne 7, 46, 0, 0, 0) := by decide +kernel
theorem xa_N_openBackOnly_42 : xm_at xP 33 42 = some (42, .iconst 1, 0, 0, 0, 0) := by decide +kernel
theorem xa_N_openBackOnly_43 : xm_at xP 33 43 = some (43, .goto 4, 47, 0, 0, 0) := by decide +kernel
theorem xa_N_openBackOnly_46 : xm_at xP 33 46 = some (46, .iconst 0, 0, 0, 0, 0) := by decide +kernel
theorem xa_N_openBackOnly_47 : xm_at xP 33 47 = some (47, .istore 7, 0, 0, 0, 0) := by decide +kernel
theorem xa_N_openBackOnly_49 : xm_at xP 33 49 = some (49, .aload_n 0, 0, 0, 0, 0) := by decide +kernel
theorem xa_N_openBackOnly_50 : xm_at xP 33 50 = some (50, .getfield 25, 1, 5, 0, 0) := by decide +kernel
theorem xa_N_openBackOnly_53 : xm_at xP 33 53 = some (53, .iload 5, 0, 0, 0, 0) := by decide +kernel
theorem xa_N_openBackOnly_55 : xm_at xP 33 55 = some (55, .iload 7, 0, 0, 0, 0) := by decide +kernel
theorem xa_N_openBackOnly_57 : xm_at xP 33 57 = some (57, .ifCond .eq 8, 65, 0, 0, 0) := by decide +kernel
theorem xa_N_openBackOnly_60 : xm_at xP 33 60 = some (60, .ldc 75, 2147483647, 0, 0, 0) := by decide +kernel
theorem xa_N_openBackOnly_62 : xm_at xP 33 62 = some (62, .goto 10, 72, 0, 0, 0) := by decide +kernel
theorem xa_N_openBackOnly_65 : xm_at xP 33 65 = some (65, .aload_n 0, 0, 0, 0, 0) := by decide +kernel
theorem xa_N_openBackOnly_66 : xm_at xP 33 66 = some (66, .iload 5, 0, 0, 0, 0) := by decide +kernel
theorem xa_N_openBackOnly_68 : xm_at xP 33 68 = some (68, .invokevirtual 72, 29, 2, 1, 0) := by decide +kernel
theorem xa_N_openBackOnly_71 : xm_at xP 33 71 = some (71, .ineg, 0, 0, 0, 0) := by decide +kernel
theorem xa_N_openBackOnly_72 : xm_at xP 33 72 = some (72, .iastore, 0, 0, 0, 0) := by decide +kernel
theorem xa_N_openBackOnly_73 : xm_at xP 33 73 = some (73, .aload_n 0, 0, 0, 0, 0) := by decide +kernel
theorem xa_N_openBackOnly_74 : xm_at xP 33 74 = some (74, .getfield 28, 1, 6, 0, 0) := by decide +kernel
theorem xa_N_openBackOnly_77 : xm_at xP 33 77 = some (77, .iload 5, 0, 0, 0, 0) := by decide +kernel
theorem xa_N_openBackOnly_79 : xm_at xP 33 79 = some (79, .iload 7, 0, 0, 0, 0) := by decide +kernel
theorem xa_N_openBackOnly_81 : xm_at xP 33 81 = some (81, .ifCond .eq 13, 94, 0, 0, 0) := by decide +kernel
theorem xa_N_openBackOnly_84 : xm_at xP 33 84 = some (84, .aload_n 0, 0, 0, 0, 0) := by decide +kernel
theorem xa_N_openBackOnly_85 : xm_at xP 33 85 = some (85, .iload 5, 0, 0, 0, 0) := by decide +kernel
theorem xa_N_openBackOnly_87 : xm_at xP 33 87 = some (87, .invokevirtual 72, 29, 2, 1, 0) := by decide +kernel
theorem xa_N_openBackOnly_90 : xm_at xP 33 90 = some (90, .ineg, 0, 0, 0, 0) := by decide +kernel
theorem xa_N_openBackOnly_91 : xm_at xP 33 91 = some (91, .goto 5, 96, 0, 0, 0) := by decide +kernel
theorem xa_N_openBackOnly_94 : xm_at xP 33 94 = some (94, .ldc 75, 2147483647, 0, 0, 0) := by decide +kernel
theorem xa_N_openBackOnly_96 : xm_at xP 33 96 = some (96, .iastore, 0, 0, 0, 0) := by decide +kernel
theorem xa_N_openBackOnly_97 : xm_at xP 33 97 = some (97, .iload_n 3, 0, 0, 0, 0) := by decide +kernel
theorem xa_N_openBackOnly_98 : xm_at xP 33 98 = some (98, .iconst 1, 0, 0, 0, 0) := by decide +kernel
theorem xa_N_openBackOnly_99 : xm_at xP 33 99 = some (99, .iload 5, 0, 0, 0, 0) := by decide +kernel
theorem xa_N_openBackOnly_101 : xm_at xP 33 101 = some (101, .ishl, 0, 0, 0, 0) := by decide +kernel
theorem xa_N_openBackOnly_102 : xm_at xP 33 102 = some (102, .ixor, 0, 0, 0, 0) := by decide +kernel
theorem xa_N_openBackOnly_103 : xm_at xP 33 103 = some (103, .istore_n 3, 0, 0, 0, 0) := by decide +kernel
theorem xa_N_openBackOnly_104 : xm_at xP 33 104 = some (104, .aload_n 0, 0, 0, 0, 0) := by decide +kernel
theorem xa_N_openBackOnly_105 : xm_at xP 33 105 = some (105, .iload 5, 0, 0, 0, 0) := by decide +kernel
theorem xa_N_openBackOnly_107 : xm_at xP 33 107 = some (107, .iload 4, 0, 0, 0, 0) := by decide +kernel
theorem xa_N_openBackOnly_109 : xm_at xP 33 109 = some (109, .invokevirtual 54, 35, 3, 1, 0) := by decide +kernel
theorem xa_N_openBackOnly_112 : xm_at xP 33 112 = some (112, .istore 4, 0, 0, 0, 0) := by decide +kernel
theorem xa_N_openBackOnly_114 : xm_at xP 33 114 = some (114, .aload_n 0, 0, 0, 0, 0) := by decide +kernel
theorem xa_N_openBackOnly_115 : xm_at xP 33 115 = some (115, .iload_n 3, 0, 0, 0, 0) := by decide +kernel
theorem xa_N_openBackOnly_116 : xm_at xP 33 116 = some (116, .iload 4, 0, 0, 0, 0) := by decide +kernel
theorem xa_N_openBackOnly_118 : xm_at xP 33 118 = some (118, .invokevirtual 50, 34, 3, 1, 0) := by decide +kernel
theorem xa_N_openBackOnly_121 : xm_at xP 33 121 = some (121, .istore 5, 0, 0, 0, 0) := by decide +kernel
theorem xa_N_openBackOnly_123 : xm_at xP 33 123 = some (123, .iinc 6 1, 0, 0, 0, 0) := by decide +kernel
theorem xa_N_openBackOnly_126 : xm_at xP 33 126 = some (126, .goto (-109), 17, 0, 0, 0) := by decide +kernel
theorem xa_N_openBackOnly_129 : xm_at xP 33 129 = some (129, .return_, 0, 0, 0, 0) := by decide +kernel
theorem xa_N_bestPath_0 : xm_at xP 26 0 = some (0, .aload_n 0, 0, 0, 0, 0) := by decide +kernel
theorem xa_N_bestPath_1 : xm_at xP 26 1 = some (1, .iload_n 1, 0, 0, 0, 0) := by decide +kernel
theorem xa_N_bestPath_2 : xm_at xP 26 2 = some (2, .invokevirtual 57, 27, 2, 1, 0) := by decide +kernel
theorem xa_N_bestPath_5 : xm_at xP 26 5 = some (5, .aload_n 0, 0, 0, 0, 0) := by decide +kernel
theorem xa_N_bestPath_6 : xm_at xP 26 6 = some (6, .iload_n 2, 0, 0, 0, 0) := by decide +kernel
theorem xa_N_bestPath_7 : xm_at xP 26 7 = some (7, .iload_n 3, 0, 0, 0, 0) := by decide +kernel
theorem xa_N_bestPath_8 : xm_at xP 26 8 = some (8, .invokevirtual 61, 30, 3, 1, 0) := by decide +kernel
theorem xa_N_bestPath_11 : xm_at xP 26 11 = some (11, .ireturn, 0, 0, 0, 0) := by decide +kernel
theorem xa_N_bestPair_0 : xm_at xP 25 0 = some (0, .aload_n 0, 0, 0, 0, 0) := by decide +kernel
theorem xa_N_bestPair_1 : xm_at xP 25 1 = some (1, .iload_n 1, 0, 0, 0, 0) := by decide +kernel
theorem xa_N_bestPair_2 : xm_at xP 25 2 = some (2, .iload_n 2, 0, 0, 0, 0) := by decide +kernel
theorem xa_N_bestPair_3 : xm_at xP 25 3 = some (3, .iload_n 3, 0, 0, 0, 0) := by decide +kernel
theorem xa_N_bestPair_4 : xm_at xP 25 4 = some (4, .invokevirtual 64, 26, 4, 1, 0) := by decide +kernel
theorem xa_N_bestPair_7 : xm_at xP 25 7 = some (7, .istore 4, 0, 0, 0, 0) := by decide +kernel
theorem xa_N_bestPair_9 : xm_at xP 25 9 = some (9, .iload 4, 0, 0, 0, 0) := by decide +kernel
theorem xa_N_bestPair_11 : xm_at xP 25 11 = some (11, .ifCond .ne 5, 16, 0, 0, 0) := by decide +kernel
theorem xa_N_bestPair_14 : xm_at xP 25 14 = some (14, .iconst 0, 0, 0, 0, 0) := by decide +kernel
theorem xa_N_bestPair_15 : xm_at xP 25 15 = some (15, .ireturn, 0, 0, 0, 0) := by decide +kernel
theorem xa_N_bestPair_16 : xm_at xP 25 16 = some (16, .aload_n 0, 0, 0, 0, 0) := by decide +kernel
theorem xa_N_bestPair_17 : xm_at xP 25 17 = some (17, .iload 4, 0, 0, 0, 0) := by decide +kernel
theorem xa_N_bestPair_19 : xm_at xP 25 19 = some (19, .iload_n 2, 0, 0, 0, 0) := by decide +kernel
theorem xa_N_bestPair_20 : xm_at xP 25 20 = some (20, .invokevirtual 68, 33, 3, 1, 0) := by decide +kernel
theorem xa_N_bestPair_23 : xm_at xP 25 23 = some (23, .aload_n 0, 0, 0, 0, 0) := by decide +kernel
theorem xa_N_bestPair_24 : xm_at xP 25 24 = some (24, .iload_n 2, 0, 0, 0, 0) := by decide +kernel
theorem xa_N_bestPair_25 : xm_at xP 25 25 = some (25, .iload_n 3, 0, 0, 0, 0) := by decide +kernel
theorem xa_N_bestPair_26 : xm_at xP 25 26 = some (26, .invokevirtual 61, 30, 3, 1, 0) := by decide +kernel
theorem xa_N_bestPair_29 : xm_at xP 25 29 = some (29, .istore 5, 0, 0, 0, 0) := by decide +kernel
theorem xa_N_bestPair_31 : xm_at xP 25 31 = some (31, .iload 5, 0, 0, 0, 0) := by decide +kernel
theorem xa_N_bestPair_33 : xm_at xP 25 33 = some (33, .ifCond .ne 7, 40, 0, 0, 0) := by decide +kernel
theorem xa_N_bestPair_36 : xm_at xP 25 36 = some (36, .iconst 0, 0, 0, 0, 0) := by decide +kernel
theorem xa_N_bestPair_37 : xm_at xP 25 37 = some (37, .goto 8, 45, 0, 0, 0) := by decide +kernel
theorem xa_N_bestPair_40 : xm_at xP 25 40 = some (40, .iload 4, 0, 0, 0, 0) := by decide +kernel
theorem xa_N_bestPair_42 : xm_at xP 25 42 = some (42, .iload 5, 0, 0, 0, 0) := by decide +kernel
theorem xa_N_bestPair_44 : xm_at xP 25 44 = some (44, .ixor, 0, 0, 0, 0) := by decide +kernel
theorem xa_N_bestPair_45 : xm_at xP 25 45 = some (45, .ireturn, 0, 0, 0, 0) := by decide +kernel
theorem xa_N_startWith_0 : xm_at xP 12 0 = some (0, .aload_n 0, 0, 0, 0, 0) := by decide +kernel
theorem xa_N_startWith_1 : xm_at xP 12 1 = some (1, .iload_n 1, 0, 0, 0, 0) := by decide +kernel
theorem xa_N_startWith_2 : xm_at xP 12 2 = some (2, .putfield 9, 1, 0, 0, 0) := by decide +kernel
theorem xa_N_startWith_5 : xm_at xP 12 5 = some (5, .aload_n 0, 0, 0, 0, 0) := by decide +kernel
theorem xa_N_startWith_6 : xm_at xP 12 6 = some (6, .iconst 0, 0, 0, 0, 0) := by decide +kernel
theorem xa_N_startWith_7 : xm_at xP 12 7 = some (7, .putfield 37, 1, 1, 0, 0) := by decide +kernel
theorem xa_N_startWith_10 : xm_at xP 12 10 = some (10, .return_, 0, 0, 0, 0) := by decide +kernel
theorem xa_N_add_0 : xm_at xP 16 0 = some (0, .aload_n 0, 0, 0, 0, 0) := by decide +kernel
theorem xa_N_add_1 : xm_at xP 16 1 = some (1, .getfield 37, 1, 1, 0, 0) := by decide +kernel
theorem xa_N_add_4 : xm_at xP 16 4 = some (4, .istore 4, 0, 0, 0, 0) := by decide +kernel
theorem xa_N_add_6 : xm_at xP 16 6 = some (6, .aload_n 0, 0, 0, 0, 0) := by decide +kernel
theorem xa_N_add_7 : xm_at xP 16 7 = some (7, .getfield 15, 1, 2, 0, 0) := by decide +kernel
theorem xa_N_add_10 : xm_at xP 16 10 = some (10, .iload 4, 0, 0, 0, 0) := by decide +kernel
theorem xa_N_add_12 : xm_at xP 16 12 = some (12, .iload_n 1, 0, 0, 0, 0) := by decide +kernel
theorem xa_N_add_13 : xm_at xP 16 13 = some (13, .iastore, 0, 0, 0, 0) := by decide +kernel
theorem xa_N_add_14 : xm_at xP 16 14 = some (14, .aload_n 0, 0, 0, 0, 0) := by decide +kernel
theorem xa_N_add_15 : xm_at xP 16 15 = some (15, .getfield 19, 1, 3, 0, 0) := by decide +kernel
theorem xa_N_add_18 : xm_at xP 16 18 = some (18, .iload 4, 0, 0, 0, 0) := by decide +kernel
theorem xa_N_add_20 : xm_at xP 16 20 = some (20, .iload_n 2, 0, 0, 0, 0) := by decide +kernel
theorem xa_N_add_21 : xm_at xP 16 21 = some (21, .iastore, 0, 0, 0, 0) := by decide +kernel
theorem xa_N_add_22 : xm_at xP 16 22 = some (22, .aload_n 0, 0, 0, 0, 0) := by decide +kernel
theorem xa_N_add_23 : xm_at xP 16 23 = some (23, .getfield 22, 1, 4, 0, 0) := by decide +kernel
theorem xa_N_add_26 : xm_at xP 16 26 = some (26, .iload 4, 0, 0, 0, 0) := by decide +kernel
theorem xa_N_add_28 : xm_at xP 16 28 = some (28, .iload_n 3, 0, 0, 0, 0) := by decide +kernel
theorem xa_N_add_29 : xm_at xP 16 29 = some (29, .iastore, 0, 0, 0, 0) := by decide +kernel
theorem xa_N_add_30 : xm_at xP 16 30 = some (30, .aload_n 0, 0, 0, 0, 0) := by decide +kernel
theorem xa_N_add_31 : xm_at xP 16 31 = some (31, .dup, 0, 0, 0, 0) := by decide +kernel
theorem xa_N_add_32 : xm_at xP 16 32 = some (32, .getfield 37, 1, 1, 0, 0) := by decide +kernel
theorem xa_N_add_35 : xm_at xP 16 35 = some (35, .iconst 1, 0, 0, 0, 0) := by decide +kernel
theorem xa_N_add_36 : xm_at xP 16 36 = some (36, .iadd, 0, 0, 0, 0) := by decide +kernel
theorem xa_N_add_37 : xm_at xP 16 37 = some (37, .putfield 37, 1, 1, 0, 0) := by decide +kernel
theorem xa_N_add_40 : xm_at xP 16 40 = some (40, .iload 4, 0, 0, 0, 0) := by decide +kernel
theorem xa_N_add_42 : xm_at xP 16 42 = some (42, .ireturn, 0, 0, 0, 0) := by decide +kernel
theorem xa_N_lengthOf_0 : xm_at xP 55 0 = some (0, .iconst 0, 0, 0, 0, 0) := by decide +kernel
theorem xa_N_lengthOf_1 : xm_at xP 55 1 = some (1, .istore_n 2, 0, 0, 0, 0) := by decide +kernel
theorem xa_N_lengthOf_2 : xm_at xP 55 2 = some (2, .iconst 0, 0, 0, 0, 0) := by decide +kernel
theorem xa_N_lengthOf_3 : xm_at xP 55 3 = some (3, .istore_n 3, 0, 0, 0, 0) := by decide +kernel
theorem xa_N_lengthOf_4 : xm_at xP 55 4 = some (4, .iload_n 3, 0, 0, 0, 0) := by decide +kernel
theorem xa_N_lengthOf_5 : xm_at xP 55 5 = some (5, .aload_n 0, 0, 0, 0, 0) := by decide +kernel
theorem xa_N_lengthOf_6 : xm_at xP 55 6 = some (6, .getfield 37, 1, 1, 0, 0) := by decide +kernel
theorem xa_N_lengthOf_9 : xm_at xP 55 9 = some (9, .if_icmp .ge 26, 35, 0, 0, 0) := by decide +kernel
theorem xa_N_lengthOf_12 : xm_at xP 55 12 = some (12, .iload_n 1, 0, 0, 0, 0) := by decide +kernel
theorem xa_N_lengthOf_13 : xm_at xP 55 13 = some (13, .iload_n 3, 0, 0, 0, 0) := by decide +kernel
theorem xa_N_lengthOf_14 : xm_at xP 55 14 = some (14, .invokestatic 40, 28, 2, 0, 0) := by decide +kernel
theorem xa_N_lengthOf_17 : xm_at xP 55 17 = some (17, .ifCond .eq 12, 29, 0, 0, 0) := by decide +kernel
theorem xa_N_lengthOf_20 : xm_at xP 55 20 = some (20, .iload_n 2, 0, 0, 0, 0) := by decide +kernel
theorem xa_N_lengthOf_21 : xm_at xP 55 21 = some (21, .aload_n 0, 0, 0, 0, 0) := by decide +kernel
theorem xa_N_lengthOf_22 : xm_at xP 55 22 = some (22, .getfield 22, 1, 4, 0, 0) := by decide +kernel
theorem xa_N_lengthOf_25 : xm_at xP 55 25 = some (25, .iload_n 3, 0, 0, 0, 0) := by decide +kernel
theorem xa_N_lengthOf_26 : xm_at xP 55 26 = some (26, .iaload, 0, 0, 0, 0) := by decide +kernel
theorem xa_N_lengthOf_27 : xm_at xP 55 27 = some (27, .iadd, 0, 0, 0, 0) := by decide +kernel
theorem xa_N_lengthOf_28 : xm_at xP 55 28 = some (28, .istore_n 2, 0, 0, 0, 0) := by decide +kernel
theorem xa_N_lengthOf_29 : xm_at xP 55 29 = some (29, .iinc 3 1, 0, 0, 0, 0) := by decide +kernel
theorem xa_N_lengthOf_32 : xm_at xP 55 32 = some (32, .goto (-28), 4, 0, 0, 0) := by decide +kernel
theorem xa_N_lengthOf_35 : xm_at xP 55 35 = some (35, .iload_n 2, 0, 0, 0, 0) := by decide +kernel
theorem xa_N_lengthOf_36 : xm_at xP 55 36 = some (36, .ireturn, 0, 0, 0, 0) := by decide +kernel
section XN2
variable {xs : Nat → Int32} {LS d : Nat} {ks : Nat} {fl : Bool} {Q : (Option Value ⊕ Nat) → xm_S → Prop}
variable {sites fibres : Nat} {fr to ln on bk co wy : Nat → Int32}
theorem xfst_spec {p : Nat → Bool} : ∀ (n i f : Nat), xfst p n i = some f → i ≤ f ∧ f < i + n ∧ p f = true ∧ ∀ j, i ≤ j → j < f → p j = false := by
  intro n
  induction n with
  | zero => intro i f h; cases h
  | succ n ih =>
    intro i f h
    unfold xfst at h
    by_cases hp : p i = true
    · rw [if_pos hp] at h
      cases h
      exact ⟨Nat.le_refl _, by omega, hp, fun j h1 h2 => by omega⟩
    · rw [if_neg hp] at h
      obtain ⟨h1, h2, h3, h4⟩ := ih (i + 1) f h
      refine ⟨by omega, by omega, h3, fun j h5 h6 => ?_⟩
      by_cases e : j = i
      · subst e
        simpa using hp
      · exact h4 j (by omega) h6
theorem xfst_none {p : Nat → Bool} : ∀ (n i : Nat), xfst p n i = none → ∀ j, i ≤ j → j < i + n → p j = false := by
  intro n
  induction n with
  | zero => intro i h j h1 h2; omega
  | succ n ih =>
    intro i h j h1 h2
    unfold xfst at h
    by_cases hp : p i = true
    · rw [if_pos hp] at h
      cases h
    · rw [if_neg hp] at h
      by_cases e : j = i
      · subst e
        simpa using hp
      · exact ih (i + 1) h j (by omega) (by omega)
theorem nI_m1 {i : Nat} (h : i < 2 ^ 31) : ¬ nI i = -1 := by
  intro q
  have h1 := nI_toInt h
  rw [q] at h1
  have h2 : (-1 : Int32).toInt = -1 := by decide
  omega
/-- a fibre's weight -/
def xwt (ln : Nat → Int32) (f : Nat) : Int32 := (ln f <<< ((14 : Int32) &&& 31)) - ((1 : Int32) <<< ((13 - nI f) &&& 31))
theorem c_N_weight {h : List va_E} {f : Nat} (hN : xNet h sites fibres fr to ln on bk co wy) (hf : f < 14) (k : Q (.inl (some (.int (xwt ln f)))) (h, ks, fl)) : xG xs LS d 29 (0, xm_entry xP 29 [.ref 1, .int (nI f)], []) (h, ks, fl) Q := by
  obtain ⟨h1, h2, h3, h4, h5, h6, h7, h8⟩ := hN
  show xG xs LS d 29 (0, [some (.ref 1), some (.int (nI f))], []) (h, ks, fl) Q
  refine xg_aload_n xa_N_weight_0 rfl ?_
  refine xg_getfield xa_N_weight_1 (by assumption) rfl ?_
  refine xg_iload_n xa_N_weight_4 rfl ?_
  refine xg_iald_n xa_N_weight_5 (by assumption) rfl (by assumption) (by decide) ?_
  refine xg_bipush (v := 14) xa_N_weight_6 (by decide) ?_
  refine xg_ishl xa_N_weight_8 rfl ?_
  refine xg_iconst (v := 1) xa_N_weight_9 (by decide) ?_
  refine xg_bipush (v := 13) xa_N_weight_10 (by decide) ?_
  refine xg_iload_n xa_N_weight_12 rfl ?_
  refine xg_isub xa_N_weight_13 rfl ?_
  refine xg_ishl xa_N_weight_14 rfl ?_
  refine xg_isub xa_N_weight_15 rfl ?_
  exact xg_ireturn xa_N_weight_16 k
theorem c_N_everyFibre {h : List va_E} (hN : xNet h sites fibres fr to ln on bk co wy) (k : Q (.inl (some (.int (xbt fibres - 1)))) (h, ks, fl)) : xG xs LS d 24 (0, xm_entry xP 24 [.ref 1], []) (h, ks, fl) Q := by
  obtain ⟨h1, h2, h3, h4, h5, h6, h7, h8⟩ := hN
  show xG xs LS d 24 (0, [some (.ref 1)], []) (h, ks, fl) Q
  refine xg_iconst (v := 1) xa_N_everyFibre_0 (by decide) ?_
  refine xg_aload_n xa_N_everyFibre_1 rfl ?_
  refine xg_getfield xa_N_everyFibre_2 (by assumption) rfl ?_
  refine xg_ishl xa_N_everyFibre_5 rfl ?_
  refine xg_iconst (v := 1) xa_N_everyFibre_6 (by decide) ?_
  refine xg_isub xa_N_everyFibre_7 rfl ?_
  exact xg_ireturn xa_N_everyFibre_8 k
/-- the price of fibre f among the free ones s -/
def xpr (s : Int32) (ln : Nat → Int32) (f : Nat) : Int32 := if xb s f = true then xwt ln f else 2147483647
def xopn (g f : Nat → Int32) (n : Nat) : Nat → Int32 := fun j => if j < n then g j else f j
theorem xopn_s (g f : Nat → Int32) (n : Nat) : upd (xopn g f n) n (g n) = xopn g f (n + 1) := by
  funext j
  unfold upd xopn
  by_cases h1 : j = n
  · subst h1
    simp
  · by_cases h2 : j < n
    · rw [if_neg h1, if_pos h2, if_pos (by omega)]
    · rw [if_neg h1, if_neg h2, if_neg (by omega)]
theorem xopn_0 (g f : Nat → Int32) : xopn g f 0 = f := by
  funext j
  simp [xopn]
theorem c_N_openBothWays {h : List va_E} {s : Int32} (hN : xNet h sites fibres fr to ln on bk co wy) (hf : fibres ≤ 14)
    (k : ∀ h' f', xNet h' sites fibres fr to ln (xopn (xpr s ln) on fibres) (xopn (xpr s ln) bk fibres) co wy → xS h h' 5 9 → Q (.inl none) (h', ks, f')) : xG xs LS (d + 1) 27 (0, xm_entry xP 27 [.ref 1, .int s], []) (h, ks, fl) Q := by
  show xG xs LS (d + 1) 27 (0, [some (.ref 1), some (.int s), none, none], []) (h, ks, fl) Q
  have loop : ∀ n i h' fl' j3, i + n = fibres → xNet h' sites fibres fr to ln (xopn (xpr s ln) on i) (xopn (xpr s ln) bk i) co wy → xS h h' 5 9 → xG xs LS (d + 1) 27 (2, [some (.ref 1), some (.int s), some (.int (nI i)), j3], []) (h', ks, fl') Q := by
    intro n
    induction n with
    | zero =>
      intro i h' fl' j3 hi hN hS
      have hN0 := hN
      obtain ⟨h1, h2, h3, h4, h5, h6, h7, h8⟩ := hN
      have e : i = fibres := by omega
      subst e
      refine xg_iload_n xa_N_openBothWays_2 rfl ?_
      refine xg_aload_n xa_N_openBothWays_3 rfl ?_
      refine xg_getfield xa_N_openBothWays_4 (by assumption) rfl ?_
      refine xg_icmp_ge xa_N_openBothWays_7 (fun hc => ?_) (fun hc => absurd (nI_le (by omega) (by omega)) hc)
      exact xg_return xa_N_openBothWays_49 (k _ _ hN0 hS)
    | succ n ih =>
      intro i h' fl' j3 hi hN hS
      have hN0 := hN
      obtain ⟨h1, h2, h3, h4, h5, h6, h7, h8⟩ := hN
      have hi14 : i < 14 := by omega
      refine xg_iload_n xa_N_openBothWays_2 rfl ?_
      refine xg_aload_n xa_N_openBothWays_3 rfl ?_
      refine xg_getfield xa_N_openBothWays_4 (by assumption) rfl ?_
      refine xg_icmp_ge xa_N_openBothWays_7 (fun hc => absurd hc (nI_ge (by omega) (by omega))) (fun hc => ?_)
      have go : xG xs LS (d + 1) 27 (28, [some (.ref 1), some (.int s), some (.int (nI i)), j3], [.int (xpr s ln i)]) (h', ks, fl') Q := by
        refine xg_istore_n (L' := [_, _, _, _]) xa_N_openBothWays_28 (Nat.le_of_ble_eq_true rfl) rfl ?_
        refine xg_aload_n xa_N_openBothWays_29 rfl ?_
        refine xg_getfield xa_N_openBothWays_30 (by assumption) rfl ?_
        refine xg_iload_n xa_N_openBothWays_33 rfl ?_
        refine xg_iload_n xa_N_openBothWays_34 rfl ?_
        refine xg_iastf_n xa_N_openBothWays_35 (by assumption) rfl (by assumption) (by decide) (fun h35 u35 => ?_)
        have h1 := (u35.2.2 1 (by decide)).trans h1
        have h6 := (u35.2.2 6 (by decide)).trans h6
        refine xg_aload_n xa_N_openBothWays_36 rfl ?_
        refine xg_getfield xa_N_openBothWays_37 (by assumption) rfl ?_
        refine xg_iload_n xa_N_openBothWays_40 rfl ?_
        refine xg_iload_n xa_N_openBothWays_41 rfl ?_
        refine xg_iastf_n xa_N_openBothWays_42 (by assumption) rfl (by assumption) (by decide) (fun h42 u42 => ?_)
        refine xg_iinc (L' := [_, _, _, _]) xa_N_openBothWays_43 rfl (xi_inc _) rfl ?_
        refine xg_goto xa_N_openBothWays_46 ?_
        rw [xopn_s] at u35 u42
        refine ih (i + 1) h42 _ _ (by omega) ⟨?_, ?_, ?_, ?_, ?_, ?_, ?_, ?_⟩ ((hS.tr (u35.toS (by decide) (by decide))).tr (u42.toS (by decide) (by decide)))
        · exact (u42.2.2 1 (by decide)).trans h1
        · exact (u42.2.2 2 (by decide)).trans ((u35.2.2 2 (by decide)).trans h2)
        · exact (u42.2.2 3 (by decide)).trans ((u35.2.2 3 (by decide)).trans h3)
        · exact (u42.2.2 4 (by decide)).trans ((u35.2.2 4 (by decide)).trans h4)
        · exact (u42.2.2 5 (by decide)).trans u35.2.1
        · exact u42.2.1
        · exact (u42.2.2 7 (by decide)).trans ((u35.2.2 7 (by decide)).trans h7)
        · exact (u42.2.2 8 (by decide)).trans ((u35.2.2 8 (by decide)).trans h8)
      refine xg_iload_n xa_N_openBothWays_10 rfl ?_
      refine xg_iload_n xa_N_openBothWays_11 rfl ?_
      refine xg_callS1 xa_N_openBothWays_12 ⟨Nat.le_of_ble_eq_true rfl, Nat.le_of_ble_eq_true rfl, rfl⟩ rfl rfl ?_
      refine c_F_holds ?_
      refine xK1_c ?_
      refine xg_if_eq xa_N_openBothWays_15 (fun hc => ?_) (fun hc => ?_)
      · unfold xpr at go
        rw [if_neg (by rw [(xz0 _).mp hc]; decide)] at go
        refine xg_ldc (v := 2147483647) xa_N_openBothWays_26 (by decide) ?_
        exact go
      · have hb : xb s i = true := by
          cases hb : xb s i with
          | true => rfl
          | false => exact absurd ((xz0 _).mpr hb) hc
        unfold xpr at go
        rw [if_pos hb] at go
        refine xg_aload_n xa_N_openBothWays_18 rfl ?_
        refine xg_iload_n xa_N_openBothWays_19 rfl ?_
        refine xg_callV1 xa_N_openBothWays_20 ⟨Nat.le_of_ble_eq_true rfl, Nat.le_of_ble_eq_true rfl, rfl⟩ rfl rfl (by assumption) ?_
        refine c_N_weight hN0 hi14 ?_
        refine xK1_c ?_
        refine xg_goto xa_N_openBothWays_23 ?_
        exact go
  refine xg_iconst (v := 0) xa_N_openBothWays_0 (by decide) ?_
  refine xg_istore_n (L' := [_, _, _, _]) xa_N_openBothWays_1 (Nat.le_of_ble_eq_true rfl) rfl ?_
  exact loop fibres 0 h _ _ (by omega) (by rw [xopn_0, xopn_0]; exact hN) xS.rf
/-- bestPath -/
def xbp (src dst : Nat → Nat) (ln : Nat → Int32) (sites fibres : Nat) (on bk co wy : Nat → Int32) (s : Int32) (a : Nat) : (Nat → Int32) × (Nat → Int32) := xcw src dst (xopn (xpr s ln) on fibres) (xopn (xpr s ln) bk fibres) sites fibres a co wy
theorem c_N_bestPath {h : List va_E} {src dst : Nat → Nat} {s : Int32} {a b : Nat} (hN : xNet h sites fibres (fun f => nI (src f)) (fun f => nI (dst f)) ln on bk co wy) (hf : fibres ≤ 14) (hs : sites ≤ 7) (hs1 : 1 ≤ sites) (hsd : ∀ f, f < fibres → src f < 7 ∧ dst f < 7) (ha : a < 7) (hb : b < 7)
    (k : ∀ h' f', xNet h' sites fibres (fun f => nI (src f)) (fun f => nI (dst f)) ln (xopn (xpr s ln) on fibres) (xopn (xpr s ln) bk fibres) (xbp src dst ln sites fibres on bk co wy s a).1 (xbp src dst ln sites fibres on bk co wy s a).2 → xS h h' 5 9 → Q (.inl (some (.int ((xbp src dst ln sites fibres on bk co wy s a).2 b)))) (h', ks, f')) : xG xs LS (d + 2) 26 (0, xm_entry xP 26 [.ref 1, .int s, .int (nI a), .int (nI b)], []) (h, ks, fl) Q := by
  show xG xs LS (d + 2) 26 (0, [some (.ref 1), some (.int s), some (.int (nI a)), some (.int (nI b))], []) (h, ks, fl) Q
  have hN0 := hN
  obtain ⟨h1, h2, h3, h4, h5, h6, h7, h8⟩ := hN
  refine xg_aload_n xa_N_bestPath_0 rfl ?_
  refine xg_iload_n xa_N_bestPath_1 rfl ?_
  refine xg_callV0 xa_N_bestPath_2 ⟨Nat.le_of_ble_eq_true rfl, Nat.le_of_ble_eq_true rfl, rfl⟩ rfl rfl (by assumption) ?_
  refine c_N_openBothWays hN0 hf (fun hA fA hNA hSA => xK0_d ?_)
  have hA1 := hNA.1
  refine xg_aload_n xa_N_bestPath_5 rfl ?_
  refine xg_iload_n xa_N_bestPath_6 rfl ?_
  refine xg_iload_n xa_N_bestPath_7 rfl ?_
  refine xg_callV1 xa_N_bestPath_8 ⟨Nat.le_of_ble_eq_true rfl, Nat.le_of_ble_eq_true rfl, rfl⟩ rfl rfl (by assumption) ?_
  refine c_N_cheapestWay hNA hf hs hs1 hsd ha hb (fun hB fB hNB hSB => xK1_d ?_)
  exact xg_ireturn xa_N_bestPath_11 (k _ _ hNB (hSA.tr hSB))
/-- the first path turned round: what it costs to go back through it -/
def xobo (fr to ln : Nat → Int32) (fibres : Nat) : Nat → Int32 → Int32 → (Nat → Int32) → (Nat → Int32) → (Nat → Int32) × (Nat → Int32)
  | 0, _, _, on, bk => (on, bk)
  | n + 1, left, site, on, bk => match xfst (xtch fr to left site) fibres 0 with
    | none => (on, bk)
    | some f => xobo fr to ln fibres n (left ^^^ xbt f) (if fr f = site then to f else fr f) (upd on f (if fr f = site then 2147483647 else -(xwt ln f))) (upd bk f (if fr f = site then -(xwt ln f) else 2147483647))
theorem c_N_openBackOnly {h : List va_E} {s site : Int32} (hN : xNet h sites fibres fr to ln on bk co wy) (hf : fibres ≤ 14)
    (k : ∀ h' f', xNet h' sites fibres fr to ln (xobo fr to ln fibres 7 s site on bk).1 (xobo fr to ln fibres 7 s site on bk).2 co wy → xS h h' 5 9 → Q (.inl none) (h', ks, f')) : xG xs LS (d + 2) 33 (0, xm_entry xP 33 [.ref 1, .int s, .int site], []) (h, ks, fl) Q := by
  show xG xs LS (d + 2) 33 (0, [some (.ref 1), some (.int s), some (.int site), none, none, none, none, none], []) (h, ks, fl) Q
  have loop : ∀ n i left st on bk h' fl' j7, i + n = 7 → xNet h' sites fibres fr to ln on bk co wy → xS h h' 5 9 →
      (∀ h'' f'', xNet h'' sites fibres fr to ln (xobo fr to ln fibres n left st on bk).1 (xobo fr to ln fibres n left st on bk).2 co wy → xS h h'' 5 9 → Q (.inl none) (h'', ks, f'')) →
      xG xs LS (d + 2) 33 (17, [some (.ref 1), some (.int s), some (.int site), some (.int left), some (.int st), some (.int (xo (xfst (xtch fr to left st) fibres 0))), some (.int (nI i)), j7], []) (h', ks, fl') Q := by
    intro n
    induction n with
    | zero =>
      intro i left st on bk h' fl' j7 hi hN hS kk
      refine xg_iload xa_N_openBackOnly_17 rfl ?_
      refine xg_bipush (v := 7) xa_N_openBackOnly_19 (by decide) ?_
      refine xg_icmp_ge xa_N_openBackOnly_21 (fun hc => ?_) (fun hc => absurd (show (7 : Int32) ≤ nI i from by rw [show i = 7 by omega]; decide) hc)
      exact xg_return xa_N_openBackOnly_129 (kk _ _ hN hS)
    | succ n ih =>
      intro i left st on bk h' fl' j7 hi hN hS kk
      have hN0 := hN
      obtain ⟨h1, h2, h3, h4, h5, h6, h7, h8⟩ := hN
      refine xg_iload xa_N_openBackOnly_17 rfl ?_
      refine xg_bipush (v := 7) xa_N_openBackOnly_19 (by decide) ?_
      refine xg_icmp_ge xa_N_openBackOnly_21 (fun hc => absurd hc (show ¬ nI 7 ≤ nI i from nI_ge (by omega) (by omega))) (fun hc => ?_)
      refine xg_iload xa_N_openBackOnly_24 rfl ?_
      refine xg_iconst (v := (-1)) xa_N_openBackOnly_26 (by decide) ?_
      unfold xobo at kk
      cases hx : xfst (xtch fr to left st) fibres 0 with
      | none =>
        rw [hx] at kk
        refine xg_icmp_eq xa_N_openBackOnly_27 (fun hc => ?_) (fun hc => absurd rfl hc)
        exact xg_return xa_N_openBackOnly_129 (kk _ _ hN0 hS)
      | some f =>
        rw [hx] at kk
        obtain ⟨-, hf1, -, -⟩ := xfst_spec _ _ _ hx
        have hf14 : f < 14 := by omega
        show xG xs LS (d + 2) 33 (27, [some (.ref 1), some (.int s), some (.int site), some (.int left), some (.int st), some (.int (nI f)), some (.int (nI i)), j7], [.int (-1), .int (nI f)]) (h', ks, fl') Q
        refine xg_icmp_eq xa_N_openBackOnly_27 (fun hc => absurd hc (nI_m1 (by omega))) (fun hc => ?_)
        have tail : ∀ h2' fl2 j7', xNet h2' sites fibres fr to ln (upd on f (if fr f = st then 2147483647 else -(xwt ln f))) (upd bk f (if fr f = st then -(xwt ln f) else 2147483647)) co wy → xS h h2' 5 9 → xG xs LS (d + 2) 33 (97, [some (.ref 1), some (.int s), some (.int site), some (.int left), some (.int st), some (.int (nI f)), some (.int (nI i)), j7'], []) (h2', ks, fl2) Q := by
          intro h2' fl2 j7' hN2 hS2
          have g1 := hN2.1
          refine xg_iload_n xa_N_openBackOnly_97 rfl ?_
          refine xg_iconst (v := 1) xa_N_openBackOnly_98 (by decide) ?_
          refine xg_iload xa_N_openBackOnly_99 rfl ?_
          refine xg_ishl xa_N_openBackOnly_101 rfl ?_
          refine xg_ixor xa_N_openBackOnly_102 rfl ?_
          refine xg_istore_n (L' := [_, _, _, _, _, _, _, _]) xa_N_openBackOnly_103 (Nat.le_of_ble_eq_true rfl) rfl ?_
          refine xg_aload_n xa_N_openBackOnly_104 rfl ?_
          refine xg_iload xa_N_openBackOnly_105 rfl ?_
          refine xg_iload xa_N_openBackOnly_107 rfl ?_
          refine xg_callV1 xa_N_openBackOnly_109 ⟨Nat.le_of_ble_eq_true rfl, Nat.le_of_ble_eq_true rfl, rfl⟩ rfl rfl (by assumption) ?_
          refine c_N_otherEnd hN2 hf14 ?_
          refine xK1_c ?_
          refine xg_istore (L' := [_, _, _, _, _, _, _, _]) xa_N_openBackOnly_112 (Nat.le_of_ble_eq_true rfl) rfl ?_
          refine xg_aload_n xa_N_openBackOnly_114 rfl ?_
          refine xg_iload_n xa_N_openBackOnly_115 rfl ?_
          refine xg_iload xa_N_openBackOnly_116 rfl ?_
          refine xg_callV1 xa_N_openBackOnly_118 ⟨Nat.le_of_ble_eq_true rfl, Nat.le_of_ble_eq_true rfl, rfl⟩ rfl rfl (by assumption) ?_
          refine c_N_touching hN2 hf ?_
          refine xK1_c ?_
          refine xg_istore (L' := [_, _, _, _, _, _, _, _]) xa_N_openBackOnly_121 (Nat.le_of_ble_eq_true rfl) rfl ?_
          refine xg_iinc (L' := [_, _, _, _, _, _, _, _]) xa_N_openBackOnly_123 rfl (xi_inc _) rfl ?_
          refine xg_goto xa_N_openBackOnly_126 ?_
          exact ih (i + 1) _ _ _ _ h2' _ _ (by omega) hN2 hS2 kk
        refine xg_aload_n xa_N_openBackOnly_30 rfl ?_
        refine xg_getfield xa_N_openBackOnly_31 (by assumption) rfl ?_
        refine xg_iload xa_N_openBackOnly_34 rfl ?_
        refine xg_iald_n xa_N_openBackOnly_36 (by assumption) rfl (by assumption) (by decide) ?_
        refine xg_iload xa_N_openBackOnly_37 rfl ?_
        refine xg_icmp_ne xa_N_openBackOnly_39 (fun c1 => ?_) (fun c1 => ?_)
        · rw [if_neg c1, if_neg c1] at tail
          refine xg_iconst (v := 0) xa_N_openBackOnly_46 (by decide) ?_
          refine xg_istore (L' := [_, _, _, _, _, _, _, _]) xa_N_openBackOnly_47 (Nat.le_of_ble_eq_true rfl) rfl ?_
          refine xg_aload_n xa_N_openBackOnly_49 rfl ?_
          refine xg_getfield xa_N_openBackOnly_50 (by assumption) rfl ?_
          refine xg_iload xa_N_openBackOnly_53 rfl ?_
          refine xg_iload xa_N_openBackOnly_55 rfl ?_
          refine xg_if_eq xa_N_openBackOnly_57 (fun _ => ?_) (fun hc => absurd rfl hc)
          refine xg_aload_n xa_N_openBackOnly_65 rfl ?_
          refine xg_iload xa_N_openBackOnly_66 rfl ?_
          refine xg_callV1 xa_N_openBackOnly_68 ⟨Nat.le_of_ble_eq_true rfl, Nat.le_of_ble_eq_true rfl, rfl⟩ rfl rfl (by assumption) ?_
          refine c_N_weight hN0 hf14 ?_
          refine xK1_c ?_
          refine xg_ineg xa_N_openBackOnly_71 rfl ?_
          refine xg_iastf_n xa_N_openBackOnly_72 (by assumption) rfl (by assumption) (by decide) (fun h72 u72 => ?_)
          have h1 := (u72.2.2 1 (by decide)).trans h1
          have h6 := (u72.2.2 6 (by decide)).trans h6
          refine xg_aload_n xa_N_openBackOnly_73 rfl ?_
          refine xg_getfield xa_N_openBackOnly_74 (by assumption) rfl ?_
          refine xg_iload xa_N_openBackOnly_77 rfl ?_
          refine xg_iload xa_N_openBackOnly_79 rfl ?_
          refine xg_if_eq xa_N_openBackOnly_81 (fun _ => ?_) (fun hc => absurd rfl hc)
          refine xg_ldc (v := 2147483647) xa_N_openBackOnly_94 (by decide) ?_
          refine xg_iastf_n xa_N_openBackOnly_96 (by assumption) rfl (by assumption) (by decide) (fun h96 u96 => ?_)
          refine tail h96 _ _ ⟨?_, ?_, ?_, ?_, ?_, ?_, ?_, ?_⟩ ((hS.tr (u72.toS (by decide) (by decide))).tr (u96.toS (by decide) (by decide)))
          · exact (u96.2.2 1 (by decide)).trans h1
          · exact (u96.2.2 2 (by decide)).trans ((u72.2.2 2 (by decide)).trans h2)
          · exact (u96.2.2 3 (by decide)).trans ((u72.2.2 3 (by decide)).trans h3)
          · exact (u96.2.2 4 (by decide)).trans ((u72.2.2 4 (by decide)).trans h4)
          · exact (u96.2.2 5 (by decide)).trans u72.2.1
          · exact u96.2.1
          · exact (u96.2.2 7 (by decide)).trans ((u72.2.2 7 (by decide)).trans h7)
          · exact (u96.2.2 8 (by decide)).trans ((u72.2.2 8 (by decide)).trans h8)
        · rw [if_pos c1, if_pos c1] at tail
          refine xg_iconst (v := 1) xa_N_openBackOnly_42 (by decide) ?_
          refine xg_goto xa_N_openBackOnly_43 ?_
          refine xg_istore (L' := [_, _, _, _, _, _, _, _]) xa_N_openBackOnly_47 (Nat.le_of_ble_eq_true rfl) rfl ?_
          refine xg_aload_n xa_N_openBackOnly_49 rfl ?_
          refine xg_getfield xa_N_openBackOnly_50 (by assumption) rfl ?_
          refine xg_iload xa_N_openBackOnly_53 rfl ?_
          refine xg_iload xa_N_openBackOnly_55 rfl ?_
          refine xg_if_eq xa_N_openBackOnly_57 (fun hc => absurd hc (by decide)) (fun _ => ?_)
          refine xg_ldc (v := 2147483647) xa_N_openBackOnly_60 (by decide) ?_
          refine xg_goto xa_N_openBackOnly_62 ?_
          refine xg_iastf_n xa_N_openBackOnly_72 (by assumption) rfl (by assumption) (by decide) (fun h72 u72 => ?_)
          have h1 := (u72.2.2 1 (by decide)).trans h1
          have h6 := (u72.2.2 6 (by decide)).trans h6
          have hN72 : xNet h72 sites fibres fr to ln (upd on f 2147483647) bk co wy := ⟨h1, (u72.2.2 2 (by decide)).trans h2, (u72.2.2 3 (by decide)).trans h3, (u72.2.2 4 (by decide)).trans h4, u72.2.1, h6, (u72.2.2 7 (by decide)).trans h7, (u72.2.2 8 (by decide)).trans h8⟩
          refine xg_aload_n xa_N_openBackOnly_73 rfl ?_
          refine xg_getfield xa_N_openBackOnly_74 (by assumption) rfl ?_
          refine xg_iload xa_N_openBackOnly_77 rfl ?_
          refine xg_iload xa_N_openBackOnly_79 rfl ?_
          refine xg_if_eq xa_N_openBackOnly_81 (fun hc => absurd hc (by decide)) (fun _ => ?_)
          refine xg_aload_n xa_N_openBackOnly_84 rfl ?_
          refine xg_iload xa_N_openBackOnly_85 rfl ?_
          refine xg_callV1 xa_N_openBackOnly_87 ⟨Nat.le_of_ble_eq_true rfl, Nat.le_of_ble_eq_true rfl, rfl⟩ rfl rfl (by assumption) ?_
          refine c_N_weight hN72 hf14 ?_
          refine xK1_c ?_
          refine xg_ineg xa_N_openBackOnly_90 rfl ?_
          refine xg_goto xa_N_openBackOnly_91 ?_
          refine xg_iastf_n xa_N_openBackOnly_96 (by assumption) rfl (by assumption) (by decide) (fun h96 u96 => ?_)
          refine tail h96 _ _ ⟨?_, ?_, ?_, ?_, ?_, ?_, ?_, ?_⟩ ((hS.tr (u72.toS (by decide) (by decide))).tr (u96.toS (by decide) (by decide)))
          · exact (u96.2.2 1 (by decide)).trans h1
          · exact (u96.2.2 2 (by decide)).trans ((u72.2.2 2 (by decide)).trans h2)
          · exact (u96.2.2 3 (by decide)).trans ((u72.2.2 3 (by decide)).trans h3)
          · exact (u96.2.2 4 (by decide)).trans ((u72.2.2 4 (by decide)).trans h4)
          · exact (u96.2.2 5 (by decide)).trans u72.2.1
          · exact u96.2.1
          · exact (u96.2.2 7 (by decide)).trans ((u72.2.2 7 (by decide)).trans h7)
          · exact (u96.2.2 8 (by decide)).trans ((u72.2.2 8 (by decide)).trans h8)
  have hN0 := hN
  obtain ⟨h1, h2, h3, h4, h5, h6, h7, h8⟩ := hN
  refine xg_iload_n xa_N_openBackOnly_0 rfl ?_
  refine xg_istore_n (L' := [_, _, _, _, _, _, _, _]) xa_N_openBackOnly_1 (Nat.le_of_ble_eq_true rfl) rfl ?_
  refine xg_iload_n xa_N_openBackOnly_2 rfl ?_
  refine xg_istore (L' := [_, _, _, _, _, _, _, _]) xa_N_openBackOnly_3 (Nat.le_of_ble_eq_true rfl) rfl ?_
  refine xg_aload_n xa_N_openBackOnly_5 rfl ?_
  refine xg_iload_n xa_N_openBackOnly_6 rfl ?_
  refine xg_iload xa_N_openBackOnly_7 rfl ?_
  refine xg_callV1 xa_N_openBackOnly_9 ⟨Nat.le_of_ble_eq_true rfl, Nat.le_of_ble_eq_true rfl, rfl⟩ rfl rfl (by assumption) ?_
  refine c_N_touching hN0 hf ?_
  refine xK1_c ?_
  refine xg_istore (L' := [_, _, _, _, _, _, _, _]) xa_N_openBackOnly_12 (Nat.le_of_ble_eq_true rfl) rfl ?_
  refine xg_iconst (v := 0) xa_N_openBackOnly_14 (by decide) ?_
  refine xg_istore (L' := [_, _, _, _, _, _, _, _]) xa_N_openBackOnly_15 (Nat.le_of_ble_eq_true rfl) rfl ?_
  exact loop 7 0 s site on bk h _ _ (by omega) hN0 xS.rf k
end XN2
