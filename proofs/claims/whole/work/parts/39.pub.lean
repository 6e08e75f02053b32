/-! 39.pub: the model's calls: clear, fibre, request, release, lock. -/
theorem xa_M_clear_0 : xm_at xP 70 0 = some (0, .aload_n 0, 0, 0, 0, 0) := by decide +kernel
theorem xa_M_clear_1 : xm_at xP 70 1 = some (1, .iload_n 1, 0, 0, 0, 0) := by decide +kernel
theorem xa_M_clear_2 : xm_at xP 70 2 = some (2, .iconst 2, 0, 0, 0, 0) := by decide +kernel
theorem xa_M_clear_3 : xm_at xP 70 3 = some (3, .if_icmp .lt 9, 12, 0, 0, 0) := by decide +kernel
theorem xa_M_clear_6 : xm_at xP 70 6 = some (6, .iload_n 1, 0, 0, 0, 0) := by decide +kernel
theorem xa_M_clear_7 : xm_at xP 70 7 = some (7, .bipush 7, 0, 0, 0, 0) := by decide +kernel
theorem xa_M_clear_9 : xm_at xP 70 9 = some (9, .if_icmp .le 7, 16, 0, 0, 0) := by decide +kernel
theorem xa_M_clear_12 : xm_at xP 70 12 = some (12, .iconst 1, 0, 0, 0, 0) := by decide +kernel
theorem xa_M_clear_13 : xm_at xP 70 13 = some (13, .goto 4, 17, 0, 0, 0) := by decide +kernel
theorem xa_M_clear_16 : xm_at xP 70 16 = some (16, .iconst 0, 0, 0, 0, 0) := by decide +kernel
theorem xa_M_clear_17 : xm_at xP 70 17 = some (17, .putfield 66, 3, 0, 0, 0) := by decide +kernel
theorem xa_M_clear_20 : xm_at xP 70 20 = some (20, .aload_n 0, 0, 0, 0, 0) := by decide +kernel
theorem xa_M_clear_21 : xm_at xP 70 21 = some (21, .getfield 66, 3, 0, 0, 0) := by decide +kernel
theorem xa_M_clear_24 : xm_at xP 70 24 = some (24, .ifCond .le 4, 28, 0, 0, 0) := by decide +kernel
theorem xa_M_clear_27 : xm_at xP 70 27 = some (27, .return_, 0, 0, 0, 0) := by decide +kernel
theorem xa_M_clear_28 : xm_at xP 70 28 = some (28, .aload_n 0, 0, 0, 0, 0) := by decide +kernel
theorem xa_M_clear_29 : xm_at xP 70 29 = some (29, .iload_n 1, 0, 0, 0, 0) := by decide +kernel
theorem xa_M_clear_30 : xm_at xP 70 30 = some (30, .putfield 7, 3, 1, 0, 0) := by decide +kernel
theorem xa_M_clear_33 : xm_at xP 70 33 = some (33, .aload_n 0, 0, 0, 0, 0) := by decide +kernel
theorem xa_M_clear_34 : xm_at xP 70 34 = some (34, .iconst 0, 0, 0, 0, 0) := by decide +kernel
theorem xa_M_clear_35 : xm_at xP 70 35 = some (35, .putfield 69, 3, 2, 0, 0) := by decide +kernel
theorem xa_M_clear_38 : xm_at xP 70 38 = some (38, .aload_n 0, 0, 0, 0, 0) := by decide +kernel
theorem xa_M_clear_39 : xm_at xP 70 39 = some (39, .iconst 0, 0, 0, 0, 0) := by decide +kernel
theorem xa_M_clear_40 : xm_at xP 70 40 = some (40, .putfield 76, 3, 7, 0, 0) := by decide +kernel
theorem xa_M_clear_43 : xm_at xP 70 43 = some (43, .iconst 0, 0, 0, 0, 0) := by decide +kernel
theorem xa_M_clear_44 : xm_at xP 70 44 = some (44, .istore_n 2, 0, 0, 0, 0) := by decide +kernel
theorem xa_M_clear_45 : xm_at xP 70 45 = some (45, .iload_n 2, 0, 0, 0, 0) := by decide +kernel
theorem xa_M_clear_46 : xm_at xP 70 46 = some (46, .bipush 12, 0, 0, 0, 0) := by decide +kernel
theorem xa_M_clear_48 : xm_at xP 70 48 = some (48, .if_icmp .ge 16, 64, 0, 0, 0) := by decide +kernel
theorem xa_M_clear_51 : xm_at xP 70 51 = some (51, .aload_n 0, 0, 0, 0, 0) := by decide +kernel
theorem xa_M_clear_52 : xm_at xP 70 52 = some (52, .getfield 27, 3, 8, 0, 0) := by decide +kernel
theorem xa_M_clear_55 : xm_at xP 70 55 = some (55, .iload_n 2, 0, 0, 0, 0) := by decide +kernel
theorem xa_M_clear_56 : xm_at xP 70 56 = some (56, .iconst 0, 0, 0, 0, 0) := by decide +kernel
theorem xa_M_clear_57 : xm_at xP 70 57 = some (57, .bastore, 0, 0, 0, 0) := by decide +kernel
theorem xa_M_clear_58 : xm_at xP 70 58 = some (58, .iinc 2 1, 0, 0, 0, 0) := by decide +kernel
theorem xa_M_clear_61 : xm_at xP 70 61 = some (61, .goto (-16), 45, 0, 0, 0) := by decide +kernel
theorem xa_M_clear_64 : xm_at xP 70 64 = some (64, .return_, 0, 0, 0, 0) := by decide +kernel
theorem xa_M_fibre_0 : xm_at xP 71 0 = some (0, .aload_n 0, 0, 0, 0, 0) := by decide +kernel
theorem xa_M_fibre_1 : xm_at xP 71 1 = some (1, .aload_n 0, 0, 0, 0, 0) := by decide +kernel
theorem xa_M_fibre_2 : xm_at xP 71 2 = some (2, .iload_n 1, 0, 0, 0, 0) := by decide +kernel
theorem xa_M_fibre_3 : xm_at xP 71 3 = some (3, .invokevirtual 79, 72, 2, 3, 0) := by decide +kernel
theorem xa_M_fibre_6 : xm_at xP 71 6 = some (6, .ifCond .ne 11, 17, 0, 0, 0) := by decide +kernel
theorem xa_M_fibre_9 : xm_at xP 71 9 = some (9, .aload_n 0, 0, 0, 0, 0) := by decide +kernel
theorem xa_M_fibre_10 : xm_at xP 71 10 = some (10, .iload_n 2, 0, 0, 0, 0) := by decide +kernel
theorem xa_M_fibre_11 : xm_at xP 71 11 = some (11, .invokevirtual 79, 72, 2, 3, 0) := by decide +kernel
theorem xa_M_fibre_14 : xm_at xP 71 14 = some (14, .ifCond .eq 7, 21, 0, 0, 0) := by decide +kernel
theorem xa_M_fibre_17 : xm_at xP 71 17 = some (17, .iconst 1, 0, 0, 0, 0) := by decide +kernel
theorem xa_M_fibre_18 : xm_at xP 71 18 = some (18, .goto 37, 55, 0, 0, 0) := by decide +kernel
theorem xa_M_fibre_21 : xm_at xP 71 21 = some (21, .iload_n 1, 0, 0, 0, 0) := by decide +kernel
theorem xa_M_fibre_22 : xm_at xP 71 22 = some (22, .iload_n 2, 0, 0, 0, 0) := by decide +kernel
theorem xa_M_fibre_23 : xm_at xP 71 23 = some (23, .if_icmp .eq 14, 37, 0, 0, 0) := by decide +kernel
theorem xa_M_fibre_26 : xm_at xP 71 26 = some (26, .iload_n 3, 0, 0, 0, 0) := by decide +kernel
theorem xa_M_fibre_27 : xm_at xP 71 27 = some (27, .iconst 1, 0, 0, 0, 0) := by decide +kernel
theorem xa_M_fibre_28 : xm_at xP 71 28 = some (28, .if_icmp .lt 9, 37, 0, 0, 0) := by decide +kernel
theorem xa_M_fibre_31 : xm_at xP 71 31 = some (31, .iload_n 3, 0, 0, 0, 0) := by decide +kernel
theorem xa_M_fibre_32 : xm_at xP 71 32 = some (32, .bipush 100, 0, 0, 0, 0) := by decide +kernel
theorem xa_M_fibre_34 : xm_at xP 71 34 = some (34, .if_icmp .le 7, 41, 0, 0, 0) := by decide +kernel
theorem xa_M_fibre_37 : xm_at xP 71 37 = some (37, .iconst 2, 0, 0, 0, 0) := by decide +kernel
theorem xa_M_fibre_38 : xm_at xP 71 38 = some (38, .goto 17, 55, 0, 0, 0) := by decide +kernel
theorem xa_M_fibre_41 : xm_at xP 71 41 = some (41, .aload_n 0, 0, 0, 0, 0) := by decide +kernel
theorem xa_M_fibre_42 : xm_at xP 71 42 = some (42, .getfield 69, 3, 2, 0, 0) := by decide +kernel
theorem xa_M_fibre_45 : xm_at xP 71 45 = some (45, .bipush 14, 0, 0, 0, 0) := by decide +kernel
theorem xa_M_fibre_47 : xm_at xP 71 47 = some (47, .if_icmp .ne 7, 54, 0, 0, 0) := by decide +kernel
theorem xa_M_fibre_50 : xm_at xP 71 50 = some (50, .iconst 3, 0, 0, 0, 0) := by decide +kernel
theorem xa_M_fibre_51 : xm_at xP 71 51 = some (51, .goto 4, 55, 0, 0, 0) := by decide +kernel
theorem xa_M_fibre_54 : xm_at xP 71 54 = some (54, .iconst 0, 0, 0, 0, 0) := by decide +kernel
theorem xa_M_fibre_55 : xm_at xP 71 55 = some (55, .putfield 66, 3, 0, 0, 0) := by decide +kernel
theorem xa_M_fibre_58 : xm_at xP 71 58 = some (58, .aload_n 0, 0, 0, 0, 0) := by decide +kernel
theorem xa_M_fibre_59 : xm_at xP 71 59 = some (59, .getfield 66, 3, 0, 0, 0) := by decide +kernel
theorem xa_M_fibre_62 : xm_at xP 71 62 = some (62, .ifCond .le 5, 67, 0, 0, 0) := by decide +kernel
theorem xa_M_fibre_65 : xm_at xP 71 65 = some (65, .iconst 0, 0, 0, 0, 0) := by decide +kernel
theorem xa_M_fibre_66 : xm_at xP 71 66 = some (66, .ireturn, 0, 0, 0, 0) := by decide +kernel
theorem xa_M_fibre_67 : xm_at xP 71 67 = some (67, .aload_n 0, 0, 0, 0, 0) := by decide +kernel
theorem xa_M_fibre_68 : xm_at xP 71 68 = some (68, .getfield 13, 3, 3, 0, 0) := by decide +kernel
theorem xa_M_fibre_71 : xm_at xP 71 71 = some (71, .iconst 2, 0, 0, 0, 0) := by decide +kernel
theorem xa_M_fibre_72 : xm_at xP 71 72 = some (72, .aload_n 0, 0, 0, 0, 0) := by decide +kernel
theorem xa_M_fibre_73 : xm_at xP 71 73 = some (73, .getfield 69, 3, 2, 0, 0) := by decide +kernel
theorem xa_M_fibre_76 : xm_at xP 71 76 = some (76, .imul, 0, 0, 0, 0) := by decide +kernel
theorem xa_M_fibre_77 : xm_at xP 71 77 = some (77, .iload_n 1, 0, 0, 0, 0) := by decide +kernel
theorem xa_M_fibre_78 : xm_at xP 71 78 = some (78, .iastore, 0, 0, 0, 0) := by decide +kernel
theorem xa_M_fibre_79 : xm_at xP 71 79 = some (79, .aload_n 0, 0, 0, 0, 0) := by decide +kernel
theorem xa_M_fibre_80 : xm_at xP 71 80 = some (80, .getfield 13, 3, 3, 0, 0) := by decide +kernel
theorem xa_M_fibre_83 : xm_at xP 71 83 = some (83, .iconst 2, 0, 0, 0, 0) := by decide +kernel
theorem xa_M_fibre_84 : xm_at xP 71 84 = some (84, .aload_n 0, 0, 0, 0, 0) := by decide +kernel
theorem xa_M_fibre_85 : xm_at xP 71 85 = some (85, .getfield 69, 3, 2, 0, 0) := by decide +kernel
theorem xa_M_fibre_88 : xm_at xP 71 88 = some (88, .imul, 0, 0, 0, 0) := by decide +kernel
theorem xa_M_fibre_89 : xm_at xP 71 89 = some (89, .iconst 1, 0, 0, 0, 0) := by decide +kernel
theorem xa_M_fibre_90 : xm_at xP 71 90 = some (90, .iadd, 0, 0, 0, 0) := by decide +kernel
theorem xa_M_fibre_91 : xm_at xP 71 91 = some (91, .iload_n 2, 0, 0, 0, 0) := by decide +kernel
theorem xa_M_fibre_92 : xm_at xP 71 92 = some (92, .iastore, 0, 0, 0, 0) := by decide +kernel
theorem xa_M_fibre_93 : xm_at xP 71 93 = some (93, .aload_n 0, 0, 0, 0, 0) := by decide +kernel
theorem xa_M_fibre_94 : xm_at xP 71 94 = some (94, .getfield 17, 3, 4, 0, 0) := by decide +kernel
theorem xa_M_fibre_97 : xm_at xP 71 97 = some (97, .aload_n 0, 0, 0, 0, 0) := by decide +kernel
theorem xa_M_fibre_98 : xm_at xP 71 98 = some (98, .getfield 69, 3, 2, 0, 0) := by decide +kernel
theorem xa_M_fibre_101 : xm_at xP 71 101 = some (101, .iload_n 3, 0, 0, 0, 0) := by decide +kernel
theorem xa_M_fibre_102 : xm_at xP 71 102 = some (102, .iastore, 0, 0, 0, 0) := by decide +kernel
theorem xa_M_fibre_103 : xm_at xP 71 103 = some (103, .aload_n 0, 0, 0, 0, 0) := by decide +kernel
theorem xa_M_fibre_104 : xm_at xP 71 104 = some (104, .getfield 20, 3, 5, 0, 0) := by decide +kernel
theorem xa_M_fibre_107 : xm_at xP 71 107 = some (107, .aload_n 0, 0, 0, 0, 0) := by decide +kernel
theorem xa_M_fibre_108 : xm_at xP 71 108 = some (108, .getfield 69, 3, 2, 0, 0) := by decide +kernel
theorem xa_M_fibre_111 : xm_at xP 71 111 = some (111, .iconst 0, 0, 0, 0, 0) := by decide +kernel
theorem xa_M_fibre_112 : xm_at xP 71 112 = some (112, .bastore, 0, 0, 0, 0) := by decide +kernel
theorem xa_M_fibre_113 : xm_at xP 71 113 = some (113, .aload_n 0, 0, 0, 0, 0) := by decide +kernel
theorem xa_M_fibre_114 : xm_at xP 71 114 = some (114, .getfield 24, 3, 6, 0, 0) := by decide +kernel
theorem xa_M_fibre_117 : xm_at xP 71 117 = some (117, .aload_n 0, 0, 0, 0, 0) := by decide +kernel
theorem xa_M_fibre_118 : xm_at xP 71 118 = some (118, .getfield 69, 3, 2, 0, 0) := by decide +kernel
theorem xa_M_fibre_121 : xm_at xP 71 121 = some (121, .iconst 0, 0, 0, 0, 0) := by decide +kernel
theorem xa_M_fibre_122 : xm_at xP 71 122 = some (122, .bastore, 0, 0, 0, 0) := by decide +kernel
theorem xa_M_fibre_123 : xm_at xP 71 123 = some (123, .aload_n 0, 0, 0, 0, 0) := by decide +kernel
theorem xa_M_fibre_124 : xm_at xP 71 124 = some (124, .dup, 0, 0, 0, 0) := by decide +kernel
theorem xa_M_fibre_125 : xm_at xP 71 125 = some (125, .getfield 69, 3, 2, 0, 0) := by decide +kernel
theorem xa_M_fibre_128 : xm_at xP 71 128 = some (128, .iconst 1, 0, 0, 0, 0) := by decide +kernel
theorem xa_M_fibre_129 : xm_at xP 71 129 = some (129, .iadd, 0, 0, 0, 0) := by decide +kernel
theorem xa_M_fibre_130 : xm_at xP 71 130 = some (130, .putfield 69, 3, 2, 0, 0) := by decide +kernel
theorem xa_M_fibre_133 : xm_at xP 71 133 = some (133, .aload_n 0, 0, 0, 0, 0) := by decide +kernel
theorem xa_M_fibre_134 : xm_at xP 71 134 = some (134, .getfield 69, 3, 2, 0, 0) := by decide +kernel
theorem xa_M_fibre_137 : xm_at xP 71 137 = some (137, .iconst 1, 0, 0, 0, 0) := by decide +kernel
theorem xa_M_fibre_138 : xm_at xP 71 138 = some (138, .isub, 0, 0, 0, 0) := by decide +kernel
theorem xa_M_fibre_139 : xm_at xP 71 139 = some (139, .ireturn, 0, 0, 0, 0) := by decide +kernel
theorem xa_M_request_0 : xm_at xP 73 0 = some (0, .aload_n 0, 0, 0, 0, 0) := by decide +kernel
theorem xa_M_request_1 : xm_at xP 73 1 = some (1, .invokevirtual 122, 74, 1, 3, 0) := by decide +kernel
theorem xa_M_request_4 : xm_at xP 73 4 = some (4, .istore 4, 0, 0, 0, 0) := by decide +kernel
theorem xa_M_request_6 : xm_at xP 73 6 = some (6, .aload_n 0, 0, 0, 0, 0) := by decide +kernel
theorem xa_M_request_7 : xm_at xP 73 7 = some (7, .aload_n 0, 0, 0, 0, 0) := by decide +kernel
theorem xa_M_request_8 : xm_at xP 73 8 = some (8, .iload_n 1, 0, 0, 0, 0) := by decide +kernel
theorem xa_M_request_9 : xm_at xP 73 9 = some (9, .invokevirtual 79, 72, 2, 3, 0) := by decide +kernel
theorem xa_M_request_12 : xm_at xP 73 12 = some (12, .ifCond .ne 11, 23, 0, 0, 0) := by decide +kernel
theorem xa_M_request_15 : xm_at xP 73 15 = some (15, .aload_n 0, 0, 0, 0, 0) := by decide +kernel
theorem xa_M_request_16 : xm_at xP 73 16 = some (16, .iload_n 2, 0, 0, 0, 0) := by decide +kernel
theorem xa_M_request_17 : xm_at xP 73 17 = some (17, .invokevirtual 79, 72, 2, 3, 0) := by decide +kernel
theorem xa_M_request_20 : xm_at xP 73 20 = some (20, .ifCond .eq 7, 27, 0, 0, 0) := by decide +kernel
theorem xa_M_request_23 : xm_at xP 73 23 = some (23, .iconst 1, 0, 0, 0, 0) := by decide +kernel
theorem xa_M_request_24 : xm_at xP 73 24 = some (24, .goto 24, 48, 0, 0, 0) := by decide +kernel
theorem xa_M_request_27 : xm_at xP 73 27 = some (27, .iload_n 1, 0, 0, 0, 0) := by decide +kernel
theorem xa_M_request_28 : xm_at xP 73 28 = some (28, .iload_n 2, 0, 0, 0, 0) := by decide +kernel
theorem xa_M_request_29 : xm_at xP 73 29 = some (29, .if_icmp .ne 7, 36, 0, 0, 0) := by decide +kernel
theorem xa_M_request_32 : xm_at xP 73 32 = some (32, .iconst 2, 0, 0, 0, 0) := by decide +kernel
theorem xa_M_request_33 : xm_at xP 73 33 = some (33, .goto 15, 48, 0, 0, 0) := by decide +kernel
theorem xa_M_request_36 : xm_at xP 73 36 = some (36, .iload 4, 0, 0, 0, 0) := by decide +kernel
theorem xa_M_request_38 : xm_at xP 73 38 = some (38, .bipush 12, 0, 0, 0, 0) := by decide +kernel
theorem xa_M_request_40 : xm_at xP 73 40 = some (40, .if_icmp .ne 7, 47, 0, 0, 0) := by decide +kernel
theorem xa_M_request_43 : xm_at xP 73 43 = some (43, .iconst 3, 0, 0, 0, 0) := by decide +kernel
theorem xa_M_request_44 : xm_at xP 73 44 = some (44, .goto 4, 48, 0, 0, 0) := by decide +kernel
theorem xa_M_request_47 : xm_at xP 73 47 = some (47, .iconst 0, 0, 0, 0, 0) := by decide +kernel
theorem xa_M_request_48 : xm_at xP 73 48 = some (48, .putfield 66, 3, 0, 0, 0) := by decide +kernel
theorem xa_M_request_51 : xm_at xP 73 51 = some (51, .aload_n 0, 0, 0, 0, 0) := by decide +kernel
theorem xa_M_request_52 : xm_at xP 73 52 = some (52, .getfield 66, 3, 0, 0, 0) := by decide +kernel
theorem xa_M_request_55 : xm_at xP 73 55 = some (55, .ifCond .le 5, 60, 0, 0, 0) := by decide +kernel
theorem xa_M_request_58 : xm_at xP 73 58 = some (58, .iconst 0, 0, 0, 0, 0) := by decide +kernel
theorem xa_M_request_59 : xm_at xP 73 59 = some (59, .ireturn, 0, 0, 0, 0) := by decide +kernel
theorem xa_M_request_60 : xm_at xP 73 60 = some (60, .iconst 0, 0, 0, 0, 0) := by decide +kernel
theorem xa_M_request_61 : xm_at xP 73 61 = some (61, .istore 5, 0, 0, 0, 0) := by decide +kernel
theorem xa_M_request_63 : xm_at xP 73 63 = some (63, .iload 5, 0, 0, 0, 0) := by decide +kernel
theorem xa_M_request_65 : xm_at xP 73 65 = some (65, .iconst 4, 0, 0, 0, 0) := by decide +kernel
theorem xa_M_request_66 : xm_at xP 73 66 = some (66, .if_icmp .ge 64, 130, 0, 0, 0) := by decide +kernel
theorem xa_M_request_69 : xm_at xP 73 69 = some (69, .aload_n 0, 0, 0, 0, 0) := by decide +kernel
theorem xa_M_request_70 : xm_at xP 73 70 = some (70, .iload 5, 0, 0, 0, 0) := by decide +kernel
theorem xa_M_request_72 : xm_at xP 73 72 = some (72, .iload_n 1, 0, 0, 0, 0) := by decide +kernel
theorem xa_M_request_73 : xm_at xP 73 73 = some (73, .iload_n 2, 0, 0, 0, 0) := by decide +kernel
theorem xa_M_request_74 : xm_at xP 73 74 = some (74, .iload_n 3, 0, 0, 0, 0) := by decide +kernel
theorem xa_M_request_75 : xm_at xP 73 75 = some (75, .invokevirtual 126, 75, 5, 3, 0) := by decide +kernel
theorem xa_M_request_78 : xm_at xP 73 78 = some (78, .ifCond .eq 46, 124, 0, 0, 0) := by decide +kernel
theorem xa_M_request_81 : xm_at xP 73 81 = some (81, .aload_n 0, 0, 0, 0, 0) := by decide +kernel
theorem xa_M_request_82 : xm_at xP 73 82 = some (82, .getfield 27, 3, 8, 0, 0) := by decide +kernel
theorem xa_M_request_85 : xm_at xP 73 85 = some (85, .iload 4, 0, 0, 0, 0) := by decide +kernel
theorem xa_M_request_87 : xm_at xP 73 87 = some (87, .iconst 1, 0, 0, 0, 0) := by decide +kernel
theorem xa_M_request_88 : xm_at xP 73 88 = some (88, .bastore, 0, 0, 0, 0) := by decide +kernel
theorem xa_M_request_89 : xm_at xP 73 89 = some (89, .aload_n 0, 0, 0, 0, 0) := by decide +kernel
theorem xa_M_request_90 : xm_at xP 73 90 = some (90, .getfield 30, 3, 9, 0, 0) := by decide +kernel
theorem xa_M_request_93 : xm_at xP 73 93 = some (93, .iload 4, 0, 0, 0, 0) := by decide +kernel
theorem xa_M_request_95 : xm_at xP 73 95 = some (95, .iload_n 3, 0, 0, 0, 0) := by decide +kernel
theorem xa_M_request_96 : xm_at xP 73 96 = some (96, .bastore, 0, 0, 0, 0) := by decide +kernel
theorem xa_M_request_97 : xm_at xP 73 97 = some (97, .aload_n 0, 0, 0, 0, 0) := by decide +kernel
theorem xa_M_request_98 : xm_at xP 73 98 = some (98, .getfield 33, 3, 10, 0, 0) := by decide +kernel
theorem xa_M_request_101 : xm_at xP 73 101 = some (101, .iload 4, 0, 0, 0, 0) := by decide +kernel
theorem xa_M_request_103 : xm_at xP 73 103 = some (103, .iload_n 1, 0, 0, 0, 0) := by decide +kernel
theorem xa_M_request_104 : xm_at xP 73 104 = some (104, .iastore, 0, 0, 0, 0) := by decide +kernel
theorem xa_M_request_105 : xm_at xP 73 105 = some (105, .aload_n 0, 0, 0, 0, 0) := by decide +kernel
theorem xa_M_request_106 : xm_at xP 73 106 = some (106, .getfield 36, 3, 11, 0, 0) := by decide +kernel
theorem xa_M_request_109 : xm_at xP 73 109 = some (109, .iload 4, 0, 0, 0, 0) := by decide +kernel
theorem xa_M_request_111 : xm_at xP 73 111 = some (111, .iload_n 2, 0, 0, 0, 0) := by decide +kernel
theorem xa_M_request_112 : xm_at xP 73 112 = some (112, .iastore, 0, 0, 0, 0) := by decide +kernel
theorem xa_M_request_113 : xm_at xP 73 113 = some (113, .aload_n 0, 0, 0, 0, 0) := by decide +kernel
theorem xa_M_request_114 : xm_at xP 73 114 = some (114, .iload 4, 0, 0, 0, 0) := by decide +kernel
theorem xa_M_request_116 : xm_at xP 73 116 = some (116, .iload 5, 0, 0, 0, 0) := by decide +kernel
theorem xa_M_request_118 : xm_at xP 73 118 = some (118, .invokevirtual 130, 85, 3, 3, 0) := by decide +kernel
theorem xa_M_request_121 : xm_at xP 73 121 = some (121, .iload 4, 0, 0, 0, 0) := by decide +kernel
theorem xa_M_request_123 : xm_at xP 73 123 = some (123, .ireturn, 0, 0, 0, 0) := by decide +kernel
theorem xa_M_request_124 : xm_at xP 73 124 = some (124, .iinc 5 1, 0, 0, 0, 0) := by decide +kernel
theorem xa_M_request_127 : xm_at xP 73 127 = some (127, .goto (-64), 63, 0, 0, 0) := by decide +kernel
theorem xa_M_request_130 : xm_at xP 73 130 = some (130, .iconst (-1), 0, 0, 0, 0) := by decide +kernel
theorem xa_M_request_131 : xm_at xP 73 131 = some (131, .ireturn, 0, 0, 0, 0) := by decide +kernel
theorem xa_M_release_0 : xm_at xP 86 0 = some (0, .aload_n 0, 0, 0, 0, 0) := by decide +kernel
theorem xa_M_release_1 : xm_at xP 86 1 = some (1, .aload_n 0, 0, 0, 0, 0) := by decide +kernel
theorem xa_M_release_2 : xm_at xP 86 2 = some (2, .iload_n 1, 0, 0, 0, 0) := by decide +kernel
theorem xa_M_release_3 : xm_at xP 86 3 = some (3, .invokevirtual 134, 87, 2, 3, 0) := by decide +kernel
theorem xa_M_release_6 : xm_at xP 86 6 = some (6, .ifCond .eq 7, 13, 0, 0, 0) := by decide +kernel
theorem xa_M_release_9 : xm_at xP 86 9 = some (9, .iconst 1, 0, 0, 0, 0) := by decide +kernel
theorem xa_M_release_10 : xm_at xP 86 10 = some (10, .goto 4, 14, 0, 0, 0) := by decide +kernel
theorem xa_M_release_13 : xm_at xP 86 13 = some (13, .iconst 0, 0, 0, 0, 0) := by decide +kernel
theorem xa_M_release_14 : xm_at xP 86 14 = some (14, .putfield 66, 3, 0, 0, 0) := by decide +kernel
theorem xa_M_release_17 : xm_at xP 86 17 = some (17, .aload_n 0, 0, 0, 0, 0) := by decide +kernel
theorem xa_M_release_18 : xm_at xP 86 18 = some (18, .getfield 66, 3, 0, 0, 0) := by decide +kernel
theorem xa_M_release_21 : xm_at xP 86 21 = some (21, .ifCond .ne 10, 31, 0, 0, 0) := by decide +kernel
theorem xa_M_release_24 : xm_at xP 86 24 = some (24, .aload_n 0, 0, 0, 0, 0) := by decide +kernel
theorem xa_M_release_25 : xm_at xP 86 25 = some (25, .getfield 27, 3, 8, 0, 0) := by decide +kernel
theorem xa_M_release_28 : xm_at xP 86 28 = some (28, .iload_n 1, 0, 0, 0, 0) := by decide +kernel
theorem xa_M_release_29 : xm_at xP 86 29 = some (29, .iconst 0, 0, 0, 0, 0) := by decide +kernel
theorem xa_M_release_30 : xm_at xP 86 30 = some (30, .bastore, 0, 0, 0, 0) := by decide +kernel
theorem xa_M_release_31 : xm_at xP 86 31 = some (31, .return_, 0, 0, 0, 0) := by decide +kernel
theorem xa_M_lock_0 : xm_at xP 88 0 = some (0, .aload_n 0, 0, 0, 0, 0) := by decide +kernel
theorem xa_M_lock_1 : xm_at xP 88 1 = some (1, .aload_n 0, 0, 0, 0, 0) := by decide +kernel
theorem xa_M_lock_2 : xm_at xP 88 2 = some (2, .iload_n 1, 0, 0, 0, 0) := by decide +kernel
theorem xa_M_lock_3 : xm_at xP 88 3 = some (3, .invokevirtual 137, 89, 2, 3, 0) := by decide +kernel
theorem xa_M_lock_6 : xm_at xP 88 6 = some (6, .ifCond .eq 7, 13, 0, 0, 0) := by decide +kernel
theorem xa_M_lock_9 : xm_at xP 88 9 = some (9, .iconst 1, 0, 0, 0, 0) := by decide +kernel
theorem xa_M_lock_10 : xm_at xP 88 10 = some (10, .goto 18, 28, 0, 0, 0) := by decide +kernel
theorem xa_M_lock_13 : xm_at xP 88 13 = some (13, .aload_n 0, 0, 0, 0, 0) := by decide +kernel
theorem xa_M_lock_14 : xm_at xP 88 14 = some (14, .getfield 24, 3, 6, 0, 0) := by decide +kernel
theorem xa_M_lock_17 : xm_at xP 88 17 = some (17, .iload_n 1, 0, 0, 0, 0) := by decide +kernel
theorem xa_M_lock_18 : xm_at xP 88 18 = some (18, .baload, 0, 0, 0, 0) := by decide +kernel
theorem xa_M_lock_19 : xm_at xP 88 19 = some (19, .iload_n 2, 0, 0, 0, 0) := by decide +kernel
theorem xa_M_lock_20 : xm_at xP 88 20 = some (20, .if_icmp .ne 7, 27, 0, 0, 0) := by decide +kernel
theorem xa_M_lock_23 : xm_at xP 88 23 = some (23, .iconst 2, 0, 0, 0, 0) := by decide +kernel
theorem xa_M_lock_24 : xm_at xP 88 24 = some (24, .goto 4, 28, 0, 0, 0) := by decide +kernel
theorem xa_M_lock_27 : xm_at xP 88 27 = some (27, .iconst 0, 0, 0, 0, 0) := by decide +kernel
theorem xa_M_lock_28 : xm_at xP 88 28 = some (28, .putfield 66, 3, 0, 0, 0) := by decide +kernel
theorem xa_M_lock_31 : xm_at xP 88 31 = some (31, .aload_n 0, 0, 0, 0, 0) := by decide +kernel
theorem xa_M_lock_32 : xm_at xP 88 32 = some (32, .getfield 66, 3, 0, 0, 0) := by decide +kernel
theorem xa_M_lock_35 : xm_at xP 88 35 = some (35, .ifCond .ne 10, 45, 0, 0, 0) := by decide +kernel
theorem xa_M_lock_38 : xm_at xP 88 38 = some (38, .aload_n 0, 0, 0, 0, 0) := by decide +kernel
theorem xa_M_lock_39 : xm_at xP 88 39 = some (39, .getfield 24, 3, 6, 0, 0) := by decide +kernel
theorem xa_M_lock_42 : xm_at xP 88 42 = some (42, .iload_n 1, 0, 0, 0, 0) := by decide +kernel
theorem xa_M_lock_43 : xm_at xP 88 43 = some (43, .iload_n 2, 0, 0, 0, 0) := by decide +kernel
theorem xa_M_lock_44 : xm_at xP 88 44 = some (44, .bastore, 0, 0, 0, 0) := by decide +kernel
theorem xa_M_lock_45 : xm_at xP 88 45 = some (45, .return_, 0, 0, 0, 0) := by decide +kernel
section XM9
variable {xs : Nat → Int32} {LS d : Nat} {ks : Nat} {fl : Bool} {h : List va_E} {Q : (Option Value ⊕ Nat) → xm_S → Prop}
variable {Mc : Int32} {Mn : Nat} {Mm : Nat} {Mh : Int32} {Mp : Nat} {Mfw : Int32} {Mfs : Int32} {Me : Nat → Nat} {Ml : Nat → Nat} {Mbr : Nat → Bool} {Mlk : Nat → Bool} {Mt : Nat → Bool} {Mg : Nat → Bool} {Ma : Nat → Nat} {Mb : Nat → Nat} {Mw : Nat → Nat} {Mwk : Nat → Int32} {Msp : Nat → Int32} {Mon : Nat → Int32} {Mct : Nat → Int32} {MS : Nat → Int32} {MZ : Nat → Int32} {MA : Nat → Nat} {MN : Nat → Nat}
theorem xMs_c {h h' : List va_E} {x : Int32} {Mp : Nat} {Mfw Mfs : Int32} {MS MZ : Nat → Int32} {MA MN : Nat → Nat} (hM : xMd h Mc Mn Mm Mh Mp Mfw Mfs Me Ml Mbr Mlk Mt Mg Ma Mb Mw Mwk Msp Mon Mct MS MZ MA MN) (hA : ∀ j, MA j < 7) (hN : ∀ j, MN j < 100) (u : xU h h' 22 (.inr (3, [.int x, .int (nI Mn), .int (nI Mm), .ref 23, .ref 24, .ref 25, .ref 26, .int Mh, .ref 27, .ref 28, .ref 29, .ref 30, .ref 31, .ref 32, .ref 33, .ref 34, .ref 35, .int (nI Mp), .ref 36, .ref 37, .ref 38, .ref 39, .int Mfw, .int Mfs]))) : xMs h' x Mn Mm Mh Me Ml Mbr Mlk Mt Mg Ma Mb Mw Mwk Msp Mon Mct :=
  ⟨_, _, _, _, _, _, _, xMd_o (Mc' := x) hM u, hA, hN⟩
def cd_clear (x : Int32) : Int32 := if x < 2 ∨ ¬ x ≤ 7 then 1 else 0
theorem xi_7 {x : Int32} (h1 : ¬ x < 2) (h2 : x ≤ 7) : ∃ n, 2 ≤ n ∧ n ≤ 7 ∧ x = nI n := by
  obtain ⟨j, hj, e⟩ := nI_of2 (M := 7) (n := 7) (by decide) (fun q => h1 (Int32.lt_trans q (by decide))) h2
  refine ⟨j, ?_, hj, e⟩
  apply Classical.byContradiction
  intro q
  rw [e] at h1
  exact h1 (show nI j < nI 2 from nI_lt (by omega) (by omega))
/-- the first n places false -/
def xclr (t : Nat → Bool) (n : Nat) : Nat → Bool := fun c => if c < n then false else t c
theorem xclr_s (t : Nat → Bool) (n : Nat) : xup (xclr t n) n false = xclr t (n + 1) := by
  funext c
  unfold xup xclr
  by_cases e : c = n
  · rw [if_pos e, if_pos (by omega)]
  · rw [if_neg e]
    show (if c < n then false else t c) = if c < n + 1 then false else t c
    by_cases e2 : c < n
    · rw [if_pos e2, if_pos (by omega)]
    · rw [if_neg e2, if_neg (by omega)]
theorem xclr_0 (t : Nat → Bool) : xclr t 0 = t := by
  funext c
  exact if_neg (by omega)
theorem c_M_clear {x : Int32} (hM : xMs h Mc Mn Mm Mh Me Ml Mbr Mlk Mt Mg Ma Mb Mw Mwk Msp Mon Mct)
    (k1 : cd_clear x = 1 → ∀ h' fl', xMs h' 1 Mn Mm Mh Me Ml Mbr Mlk Mt Mg Ma Mb Mw Mwk Msp Mon Mct → xS h h' 22 40 → Q (.inl none) (h', ks, fl'))
    (k0 : cd_clear x = 0 → ∀ n h' fl', 2 ≤ n → n ≤ 7 → x = nI n → xMs h' 0 n 0 0 Me Ml Mbr Mlk (xclr Mt 12) Mg Ma Mb Mw Mwk Msp Mon Mct → xS h h' 22 40 → Q (.inl none) (h', ks, fl')) :
    xG xs LS d 70 (0, xm_entry xP 70 [.ref 22, .int x], []) (h, ks, fl) Q := by
  show xG xs LS d 70 (0, [some (.ref 22), some (.int x), none], []) (h, ks, fl) Q
  obtain ⟨Mp, Mfw, Mfs, MS, MZ, MA, MN, hM, hA, hN⟩ := hM
  obtain ⟨g22, g23, g24, g25, g26, g27, g28, g29, g30, g31, g32, g33, g34, g35, g36, g37, g38, g39⟩ := id hM
  unfold cd_clear at k1 k0
  have bad : (x < 2 ∨ ¬ x ≤ 7) → xG xs LS d 70 (12, [some (.ref 22), some (.int x), none], [.ref 22]) (h, ks, fl) Q := by
    intro hc
    rw [if_pos hc] at k1
    refine xg_iconst (v := 1) xa_M_clear_12 (by decide) ?_
    refine xg_goto xa_M_clear_13 ?_
    refine xg_putf (fs' := [_, _, _, _, _, _, _, _, _, _, _, _, _, _, _, _, _, _, _, _, _, _, _, _]) xa_M_clear_17 (by assumption) (Nat.le_of_ble_eq_true rfl) rfl rfl (fun h17 u17 => ?_)
    have hM1 := xMd_o (Mc' := 1) hM u17
    obtain ⟨g22, g23, g24, g25, g26, g27, g28, g29, g30, g31, g32, g33, g34, g35, g36, g37, g38, g39⟩ := id hM1
    refine xg_aload_n xa_M_clear_20 rfl ?_
    refine xg_getfield xa_M_clear_21 (by assumption) rfl ?_
    refine xg_if_le xa_M_clear_24 (fun c => absurd c (by decide)) (fun _ => ?_)
    exact xg_return xa_M_clear_27 (k1 rfl _ _ ⟨_, _, _, _, _, _, _, hM1, hA, hN⟩ (u17.toS (by decide) (by decide)))
  refine xg_aload_n xa_M_clear_0 rfl ?_
  refine xg_iload_n xa_M_clear_1 rfl ?_
  refine xg_iconst (v := 2) xa_M_clear_2 (by decide) ?_
  refine xg_icmp_lt xa_M_clear_3 (fun c => bad (Or.inl c)) (fun c3 => ?_)
  refine xg_iload_n xa_M_clear_6 rfl ?_
  refine xg_bipush (v := 7) xa_M_clear_7 (by decide) ?_
  refine xg_icmp_le xa_M_clear_9 (fun c9 => ?_) (fun c => bad (Or.inr c))
  rw [if_neg (fun q => by
    rcases q with q | q
    · exact c3 q
    · exact q c9)] at k0
  obtain ⟨n, hn1, hn2, rfl⟩ := xi_7 c3 c9
  refine xg_iconst (v := 0) xa_M_clear_16 (by decide) ?_
  refine xg_putf (fs' := [_, _, _, _, _, _, _, _, _, _, _, _, _, _, _, _, _, _, _, _, _, _, _, _]) xa_M_clear_17 (by assumption) (Nat.le_of_ble_eq_true rfl) rfl rfl (fun h17 u17 => ?_)
  have hM1 := xMd_o (Mc' := 0) hM u17
  obtain ⟨g22, g23, g24, g25, g26, g27, g28, g29, g30, g31, g32, g33, g34, g35, g36, g37, g38, g39⟩ := id hM1
  refine xg_aload_n xa_M_clear_20 rfl ?_
  refine xg_getfield xa_M_clear_21 (by assumption) rfl ?_
  refine xg_if_le xa_M_clear_24 (fun _ => ?_) (fun c => absurd (by decide) c)
  refine xg_aload_n xa_M_clear_28 rfl ?_
  refine xg_iload_n xa_M_clear_29 rfl ?_
  refine xg_putf (fs' := [_, _, _, _, _, _, _, _, _, _, _, _, _, _, _, _, _, _, _, _, _, _, _, _]) xa_M_clear_30 (by assumption) (Nat.le_of_ble_eq_true rfl) rfl rfl (fun h30 u30 => ?_)
  have hM2 := xMd_o (Mn' := n) hM1 u30
  obtain ⟨g22, g23, g24, g25, g26, g27, g28, g29, g30, g31, g32, g33, g34, g35, g36, g37, g38, g39⟩ := id hM2
  refine xg_aload_n xa_M_clear_33 rfl ?_
  refine xg_iconst (v := 0) xa_M_clear_34 (by decide) ?_
  refine xg_putf (fs' := [_, _, _, _, _, _, _, _, _, _, _, _, _, _, _, _, _, _, _, _, _, _, _, _]) xa_M_clear_35 (by assumption) (Nat.le_of_ble_eq_true rfl) rfl rfl (fun h35 u35 => ?_)
  have hM3 := xMd_o (Mm' := 0) hM2 u35
  obtain ⟨g22, g23, g24, g25, g26, g27, g28, g29, g30, g31, g32, g33, g34, g35, g36, g37, g38, g39⟩ := id hM3
  refine xg_aload_n xa_M_clear_38 rfl ?_
  refine xg_iconst (v := 0) xa_M_clear_39 (by decide) ?_
  refine xg_putf (fs' := [_, _, _, _, _, _, _, _, _, _, _, _, _, _, _, _, _, _, _, _, _, _, _, _]) xa_M_clear_40 (by assumption) (Nat.le_of_ble_eq_true rfl) rfl rfl (fun h40 u40 => ?_)
  have hM4 := xMd_o (Mh' := 0) hM3 u40
  have loop : ∀ j i h1 fl', i + j = 12 → xMd h1 0 n 0 0 Mp Mfw Mfs Me Ml Mbr Mlk (xclr Mt i) Mg Ma Mb Mw Mwk Msp Mon Mct MS MZ MA MN → xS h h1 22 40 → xG xs LS d 70 (45, [some (.ref 22), some (.int (nI n)), some (.int (nI i))], []) (h1, ks, fl') Q := by
    intro j
    induction j with
    | zero =>
      intro i h1 fl' hi hM hS
      have e : i = 12 := by omega
      subst e
      refine xg_iload_n xa_M_clear_45 rfl ?_
      refine xg_bipush (v := 12) xa_M_clear_46 (by decide) ?_
      refine xg_icmp_ge xa_M_clear_48 (fun c48 => ?_) (fun c48 => absurd (by decide) c48)
      refine xg_return xa_M_clear_64 ?_
      exact k0 rfl n _ _ hn1 hn2 rfl ⟨_, _, _, _, _, _, _, hM, hA, hN⟩ hS
    | succ j ih =>
      intro i h1 fl' hi hM hS
      have hi12 : i < 12 := by omega
      have hx : (0 : Int32) = 0 ∨ (0 : Int32) = 1 := Or.inl rfl
      obtain ⟨g22, g23, g24, g25, g26, g27, g28, g29, g30, g31, g32, g33, g34, g35, g36, g37, g38, g39⟩ := id hM
      refine xg_iload_n xa_M_clear_45 rfl ?_
      refine xg_bipush (v := 12) xa_M_clear_46 (by decide) ?_
      refine xg_icmp_ge xa_M_clear_48 (fun c => absurd c (show ¬ nI 12 ≤ nI i from nI_ge (by omega) (by omega))) (fun _ => ?_)
      refine xg_aload_n xa_M_clear_51 rfl ?_
      refine xg_getfield xa_M_clear_52 (by assumption) rfl ?_
      refine xg_iload_n xa_M_clear_55 rfl ?_
      refine xg_iconst (v := 0) xa_M_clear_56 (by decide) ?_
      refine xg_zastf_n xa_M_clear_57 (by assumption) rfl (by assumption) (by decide) (by assumption) (fun h57 u57 => ?_)
      have hM1 := xMd_Mt (x := false) hM u57
      rw [xclr_s] at hM1
      refine xg_iinc (L' := [_, _, _]) xa_M_clear_58 rfl (xi_inc _) rfl ?_
      refine xg_goto xa_M_clear_61 ?_
      exact ih (i + 1) h57 _ (by omega) hM1 (hS.tr (u57.toS (by decide) (by decide)))
  refine xg_iconst (v := 0) xa_M_clear_43 (by decide) ?_
  refine xg_istore_n (L' := [_, _, _]) xa_M_clear_44 (Nat.le_of_ble_eq_true rfl) rfl ?_
  exact loop 12 0 _ _ (by omega) (by rw [xclr_0]; exact hM4) ((((u17.toS (by decide) (by decide)).tr (u30.toS (by decide) (by decide))).tr (u35.toS (by decide) (by decide))).tr (u40.toS (by decide) (by decide)))
theorem xi_s {n : Nat} {x : Int32} (hn : n < 2 ^ 31) (h : xnS n x = false) : ∃ j, j < n ∧ x = nI j := by
  unfold xnS at h
  rw [Bool.or_eq_false_iff, decide_eq_false_iff_not, decide_eq_false_iff_not] at h
  obtain ⟨j, hj, e⟩ := nI_of h.1
  refine ⟨j, ?_, e⟩
  apply Classical.byContradiction
  intro q
  rw [e] at h
  exact h.2 (nI_le (by omega) hj)
theorem xnS_n {n j : Nat} (hj : j < n) (hn : n < 2 ^ 31) : xnS n (nI j) = false := by
  unfold xnS
  rw [decide_eq_false (nI_pos (by omega)), decide_eq_false (nI_ge hj hn)]
  rfl
def cd_fibre (n m : Nat) (a b len : Int32) : Int32 := if xnS n a = true ∨ xnS n b = true then 1 else if a = b ∨ len < 1 ∨ ¬ len ≤ 100 then 2 else if m = 14 then 3 else 0
theorem xi_100 {x : Int32} (h1 : ¬ x < 1) (h2 : x ≤ 100) : ∃ n, 1 ≤ n ∧ n ≤ 100 ∧ x = nI n := by
  obtain ⟨j, hj, e⟩ := nI_of2 (M := 100) (n := 100) (by decide) (fun q => h1 (Int32.lt_trans q (by decide))) h2
  refine ⟨j, ?_, hj, e⟩
  apply Classical.byContradiction
  intro q
  rw [e] at h1
  exact h1 (show nI j < nI 1 from nI_lt (by omega) (by omega))
theorem c_M_fibre {a b len : Int32} (hn : Mn ≤ 7) (hm : Mm ≤ 14) (hM : xMs h Mc Mn Mm Mh Me Ml Mbr Mlk Mt Mg Ma Mb Mw Mwk Msp Mon Mct)
    (k1 : ∀ v, ¬ v = 0 → cd_fibre Mn Mm a b len = v → ∀ h' fl', xMs h' v Mn Mm Mh Me Ml Mbr Mlk Mt Mg Ma Mb Mw Mwk Msp Mon Mct → xS h h' 22 40 → Q (.inl (some (.int 0))) (h', ks, fl'))
    (k0 : cd_fibre Mn Mm a b len = 0 → ∀ x y z h' fl', x < Mn → y < Mn → ¬ x = y → 1 ≤ z → z ≤ 100 → Mm < 14 → a = nI x → b = nI y → len = nI z → xMs h' 0 Mn (Mm + 1) Mh (xup (xup Me (2 * Mm) x) (2 * Mm + 1) y) (xup Ml Mm z) (xup Mbr Mm false) (xup Mlk Mm false) Mt Mg Ma Mb Mw Mwk Msp Mon Mct → xS h h' 22 40 → Q (.inl (some (.int (nI Mm)))) (h', ks, fl')) :
    xG xs LS (d + 1) 71 (0, xm_entry xP 71 [.ref 22, .int a, .int b, .int len], []) (h, ks, fl) Q := by
  show xG xs LS (d + 1) 71 (0, [some (.ref 22), some (.int a), some (.int b), some (.int len)], []) (h, ks, fl) Q
  obtain ⟨Mp, Mfw, Mfs, MS, MZ, MA, MN, hM, hA, hN⟩ := hM
  obtain ⟨g22, g23, g24, g25, g26, g27, g28, g29, g30, g31, g32, g33, g34, g35, g36, g37, g38, g39⟩ := id hM
  have bad : ∀ v, 0 < v → cd_fibre Mn Mm a b len = v → xG xs LS (d + 1) 71 (55, [some (.ref 22), some (.int a), some (.int b), some (.int len)], [.int v, .ref 22]) (h, ks, fl) Q := by
    intro v hv hc
    have hv0 : ¬ v = 0 := fun q => by rw [q] at hv; exact absurd hv (by decide)
    refine xg_putf (fs' := [_, _, _, _, _, _, _, _, _, _, _, _, _, _, _, _, _, _, _, _, _, _, _, _]) xa_M_fibre_55 (by assumption) (Nat.le_of_ble_eq_true rfl) rfl rfl (fun h55 u55 => ?_)
    have hM1 := xMd_o (Mc' := v) hM u55
    obtain ⟨g22, g23, g24, g25, g26, g27, g28, g29, g30, g31, g32, g33, g34, g35, g36, g37, g38, g39⟩ := id hM1
    refine xg_aload_n xa_M_fibre_58 rfl ?_
    refine xg_getfield xa_M_fibre_59 (by assumption) rfl ?_
    refine xg_if_le xa_M_fibre_62 (fun c => absurd hv (Int32.not_lt.mpr c)) (fun _ => ?_)
    refine xg_iconst (v := 0) xa_M_fibre_65 (by decide) ?_
    refine xg_ireturn xa_M_fibre_66  ?_
    exact k1 v hv0 hc _ _ ⟨_, _, _, _, _, _, _, hM1, hA, hN⟩ (u55.toS (by decide) (by decide))
  have bad1 : (xnS Mn a = true ∨ xnS Mn b = true) → xG xs LS (d + 1) 71 (17, [some (.ref 22), some (.int a), some (.int b), some (.int len)], [.ref 22]) (h, ks, fl) Q := by
    intro hc
    refine xg_iconst (v := 1) xa_M_fibre_17 (by decide) ?_
    refine xg_goto xa_M_fibre_18 ?_
    exact bad 1 (by decide) (by unfold cd_fibre; rw [if_pos hc])
  refine xg_aload_n xa_M_fibre_0 rfl ?_
  refine xg_aload_n xa_M_fibre_1 rfl ?_
  refine xg_iload_n xa_M_fibre_2 rfl ?_
  refine xg_callV1 xa_M_fibre_3 ⟨Nat.le_of_ble_eq_true rfl, Nat.le_of_ble_eq_true rfl, rfl⟩ rfl rfl (by assumption) ?_
  refine c_M_noSite hM ?_
  refine xK1_c ?_
  refine xg_if_ne xa_M_fibre_6 (fun c => bad1 (Or.inl (xz1 c))) (fun c6 => ?_)
  refine xg_aload_n xa_M_fibre_9 rfl ?_
  refine xg_iload_n xa_M_fibre_10 rfl ?_
  refine xg_callV1 xa_M_fibre_11 ⟨Nat.le_of_ble_eq_true rfl, Nat.le_of_ble_eq_true rfl, rfl⟩ rfl rfl (by assumption) ?_
  refine c_M_noSite hM ?_
  refine xK1_c ?_
  refine xg_if_eq xa_M_fibre_14 (fun c14 => ?_) (fun c => bad1 (Or.inr (xz1 c)))
  have n1 : ¬ (xnS Mn a = true ∨ xnS Mn b = true) := fun q => by
    rw [(xz0 _).mp c6, (xz0 _).mp c14] at q
    rcases q with q | q <;> cases q
  have bad2 : (a = b ∨ len < 1 ∨ ¬ len ≤ 100) → xG xs LS (d + 1) 71 (37, [some (.ref 22), some (.int a), some (.int b), some (.int len)], [.ref 22]) (h, ks, fl) Q := by
    intro hc
    refine xg_iconst (v := 2) xa_M_fibre_37 (by decide) ?_
    refine xg_goto xa_M_fibre_38 ?_
    exact bad 2 (by decide) (by unfold cd_fibre; rw [if_neg n1, if_pos hc])
  refine xg_iload_n xa_M_fibre_21 rfl ?_
  refine xg_iload_n xa_M_fibre_22 rfl ?_
  refine xg_icmp_eq xa_M_fibre_23 (fun c => bad2 (Or.inl c)) (fun c23 => ?_)
  refine xg_iload_n xa_M_fibre_26 rfl ?_
  refine xg_iconst (v := 1) xa_M_fibre_27 (by decide) ?_
  refine xg_icmp_lt xa_M_fibre_28 (fun c => bad2 (Or.inr (Or.inl c))) (fun c28 => ?_)
  refine xg_iload_n xa_M_fibre_31 rfl ?_
  refine xg_bipush (v := 100) xa_M_fibre_32 (by decide) ?_
  refine xg_icmp_le xa_M_fibre_34 (fun c34 => ?_) (fun c => bad2 (Or.inr (Or.inr c)))
  have n2 : ¬ (a = b ∨ len < 1 ∨ ¬ len ≤ 100) := fun q => by
    rcases q with q | q | q
    · exact c23 q
    · exact c28 q
    · exact q c34
  refine xg_aload_n xa_M_fibre_41 rfl ?_
  refine xg_getfield xa_M_fibre_42 (by assumption) rfl ?_
  refine xg_bipush (v := 14) xa_M_fibre_45 (by decide) ?_
  refine xg_icmp_ne xa_M_fibre_47 (fun c47 => ?_) (fun c => ?_)
  · have hm14 : Mm < 14 := by
      apply Classical.byContradiction
      intro q
      exact c47 (by rw [show Mm = 14 by omega]; rfl)
    have e0 : cd_fibre Mn Mm a b len = 0 := by unfold cd_fibre; rw [if_neg n1, if_neg n2, if_neg (by omega)]
    obtain ⟨x, hx, rfl⟩ := xi_s (by omega) ((xz0 _).mp c6)
    obtain ⟨y, hy, rfl⟩ := xi_s (by omega) ((xz0 _).mp c14)
    obtain ⟨z, hz1, hz2, rfl⟩ := xi_100 c28 c34
    have i1 : 2 * Mm < 28 := by omega
    have i2 : 2 * Mm + 1 < 28 := by omega
    have hxx : (0 : Int32) = 0 ∨ (0 : Int32) = 1 := Or.inl rfl
    refine xg_iconst (v := 0) xa_M_fibre_54 (by decide) ?_
    refine xg_putf (fs' := [_, _, _, _, _, _, _, _, _, _, _, _, _, _, _, _, _, _, _, _, _, _, _, _]) xa_M_fibre_55 (by assumption) (Nat.le_of_ble_eq_true rfl) rfl rfl (fun h55 u55 => ?_)
    have hM1 := xMd_o (Mc' := 0) hM u55
    obtain ⟨g22, g23, g24, g25, g26, g27, g28, g29, g30, g31, g32, g33, g34, g35, g36, g37, g38, g39⟩ := id hM1
    refine xg_aload_n xa_M_fibre_58 rfl ?_
    refine xg_getfield xa_M_fibre_59 (by assumption) rfl ?_
    refine xg_if_le xa_M_fibre_62 (fun _ => ?_) (fun c => absurd (by decide) c)
    refine xg_aload_n xa_M_fibre_67 rfl ?_
    refine xg_getfield xa_M_fibre_68 (by assumption) rfl ?_
    refine xg_iconst (v := 2) xa_M_fibre_71 (by decide) ?_
    refine xg_aload_n xa_M_fibre_72 rfl ?_
    refine xg_getfield xa_M_fibre_73 (by assumption) rfl ?_
    refine xg_imul xa_M_fibre_76 (xi_2f _) ?_
    refine xg_iload_n xa_M_fibre_77 rfl ?_
    refine xg_iastf_n xa_M_fibre_78 (by assumption) rfl (by assumption) (by decide) (fun h78 u78 => ?_)
    have hM2 := xMd_Me hM1 u78
    obtain ⟨g22, g23, g24, g25, g26, g27, g28, g29, g30, g31, g32, g33, g34, g35, g36, g37, g38, g39⟩ := id hM2
    refine xg_aload_n xa_M_fibre_79 rfl ?_
    refine xg_getfield xa_M_fibre_80 (by assumption) rfl ?_
    refine xg_iconst (v := 2) xa_M_fibre_83 (by decide) ?_
    refine xg_aload_n xa_M_fibre_84 rfl ?_
    refine xg_getfield xa_M_fibre_85 (by assumption) rfl ?_
    refine xg_imul xa_M_fibre_88 (xi_2f _) ?_
    refine xg_iconst (v := 1) xa_M_fibre_89 (by decide) ?_
    refine xg_iadd xa_M_fibre_90 (nI_1 _) ?_
    refine xg_iload_n xa_M_fibre_91 rfl ?_
    refine xg_iastf_n xa_M_fibre_92 (by assumption) rfl (by assumption) (by decide) (fun h92 u92 => ?_)
    have hM3 := xMd_Me hM2 u92
    obtain ⟨g22, g23, g24, g25, g26, g27, g28, g29, g30, g31, g32, g33, g34, g35, g36, g37, g38, g39⟩ := id hM3
    refine xg_aload_n xa_M_fibre_93 rfl ?_
    refine xg_getfield xa_M_fibre_94 (by assumption) rfl ?_
    refine xg_aload_n xa_M_fibre_97 rfl ?_
    refine xg_getfield xa_M_fibre_98 (by assumption) rfl ?_
    refine xg_iload_n xa_M_fibre_101 rfl ?_
    refine xg_iastf_n xa_M_fibre_102 (by assumption) rfl (by assumption) (by decide) (fun h102 u102 => ?_)
    have hM4 := xMd_Ml hM3 u102
    obtain ⟨g22, g23, g24, g25, g26, g27, g28, g29, g30, g31, g32, g33, g34, g35, g36, g37, g38, g39⟩ := id hM4
    refine xg_aload_n xa_M_fibre_103 rfl ?_
    refine xg_getfield xa_M_fibre_104 (by assumption) rfl ?_
    refine xg_aload_n xa_M_fibre_107 rfl ?_
    refine xg_getfield xa_M_fibre_108 (by assumption) rfl ?_
    refine xg_iconst (v := 0) xa_M_fibre_111 (by decide) ?_
    refine xg_zastf_n xa_M_fibre_112 (by assumption) rfl (by assumption) (by decide) (by assumption) (fun h112 u112 => ?_)
    have hM5 := xMd_Mbr (x := false) hM4 u112
    obtain ⟨g22, g23, g24, g25, g26, g27, g28, g29, g30, g31, g32, g33, g34, g35, g36, g37, g38, g39⟩ := id hM5
    refine xg_aload_n xa_M_fibre_113 rfl ?_
    refine xg_getfield xa_M_fibre_114 (by assumption) rfl ?_
    refine xg_aload_n xa_M_fibre_117 rfl ?_
    refine xg_getfield xa_M_fibre_118 (by assumption) rfl ?_
    refine xg_iconst (v := 0) xa_M_fibre_121 (by decide) ?_
    refine xg_zastf_n xa_M_fibre_122 (by assumption) rfl (by assumption) (by decide) (by assumption) (fun h122 u122 => ?_)
    have hM6 := xMd_Mlk (x := false) hM5 u122
    obtain ⟨g22, g23, g24, g25, g26, g27, g28, g29, g30, g31, g32, g33, g34, g35, g36, g37, g38, g39⟩ := id hM6
    refine xg_aload_n xa_M_fibre_123 rfl ?_
    refine xg_dup_r xa_M_fibre_124 ?_
    refine xg_getfield xa_M_fibre_125 (by assumption) rfl ?_
    refine xg_iconst (v := 1) xa_M_fibre_128 (by decide) ?_
    refine xg_iadd xa_M_fibre_129 (nI_1 _) ?_
    refine xg_putf (fs' := [_, _, _, _, _, _, _, _, _, _, _, _, _, _, _, _, _, _, _, _, _, _, _, _]) xa_M_fibre_130 (by assumption) (Nat.le_of_ble_eq_true rfl) rfl rfl (fun h130 u130 => ?_)
    have hM7 := xMd_o (Mm' := Mm + 1) hM6 u130
    obtain ⟨g22, g23, g24, g25, g26, g27, g28, g29, g30, g31, g32, g33, g34, g35, g36, g37, g38, g39⟩ := id hM7
    refine xg_aload_n xa_M_fibre_133 rfl ?_
    refine xg_getfield xa_M_fibre_134 (by assumption) rfl ?_
    refine xg_iconst (v := 1) xa_M_fibre_137 (by decide) ?_
    refine xg_isub xa_M_fibre_138 (nI_pred _) ?_
    refine xg_ireturn xa_M_fibre_139 (k0 e0 x y z _ _ hx hy (fun q => c23 (by rw [q])) hz1 hz2 hm14 rfl rfl rfl ⟨_, _, _, _, _, _, _, hM7, hA, hN⟩ ?_)
    exact ((((((u55.toS (by decide) (by decide)).tr (u78.toS (by decide) (by decide))).tr (u92.toS (by decide) (by decide))).tr (u102.toS (by decide) (by decide))).tr (u112.toS (by decide) (by decide))).tr (u122.toS (by decide) (by decide))).tr (u130.toS (by decide) (by decide))
  · have hm14 : Mm = 14 := (nI_eq (by omega) (by omega)).mp (show nI Mm = nI 14 from c)
    refine xg_iconst (v := 3) xa_M_fibre_50 (by decide) ?_
    refine xg_goto xa_M_fibre_51 ?_
    exact bad 3 (by decide) (by unfold cd_fibre; rw [if_neg n1, if_neg n2, if_pos hm14])
/-- the first wavelength on which something is found -/
def xlay (F : Nat → Option (Int32 × Int32)) : Nat → Nat → Option (Nat × Int32 × Int32)
  | 0, _ => none
  | n + 1, w => match F w with
    | none => xlay F n (w + 1)
    | some p => some (w, p.1, p.2)
def cd_request (n : Nat) (t : Nat → Bool) (a b : Int32) : Int32 := if xnS n a = true ∨ xnS n b = true then 1 else if a = b then 2 else if xunu t 12 0 = 12 then 3 else 0
theorem xunu_le (t : Nat → Bool) : ∀ n i, xunu t n i ≤ i + n := by
  intro n
  induction n with
  | zero => intro i; exact Nat.le_refl _
  | succ n ih =>
    intro i
    unfold xunu
    by_cases c : t i = true
    · rw [if_pos c]; have := ih (i + 1); omega
    · rw [if_neg c]; omega
theorem c_M_request {a b : Int32} {pr : Bool} (hn : Mn ≤ 7) (hm : Mm ≤ 14) (hE : ∀ j, Me j < 7) (hF : ∀ x y s, x < Mn → y < Mn → ¬ x = y → xFok Ml Mm (xPL Me Mm s x y)) (hM : xMs h Mc Mn Mm Mh Me Ml Mbr Mlk Mt Mg Ma Mb Mw Mwk Msp Mon Mct)
    (k1 : ∀ v, ¬ v = 0 → cd_request Mn Mt a b = v → ∀ h' fl', xMs h' v Mn Mm Mh Me Ml Mbr Mlk Mt Mg Ma Mb Mw Mwk Msp Mon Mct → xS h h' 22 40 → Q (.inl (some (.int 0))) (h', ks, fl'))
    (k0 : cd_request Mn Mt a b = 0 → ∀ x y c h' fl', x < Mn → y < Mn → ¬ x = y → a = nI x → b = nI y → c = xunu Mt 12 0 → c < 12 →
      (xlay (xfw Mm Me Ml Mbr Mlk Mt Mw Mwk Msp x y pr) 4 0 = none → xMs h' 0 Mn Mm Mh Me Ml Mbr Mlk Mt Mg Ma Mb Mw Mwk Msp Mon Mct → xS h h' 22 40 → Q (.inl (some (.int (-1)))) (h', ks, fl')) ∧
      (∀ w wk sp, xlay (xfw Mm Me Ml Mbr Mlk Mt Mw Mwk Msp x y pr) 4 0 = some (w, wk, sp) → xMs h' 0 Mn Mm Mh Me Ml Mbr Mlk (xup Mt c true) (xup Mg c pr) (xup Ma c x) (xup Mb c y) (xup Mw c w) (xup Mwk c wk) (xup Msp c sp) (xup Mon c 0) (xup Mct c 0) → xS h h' 22 40 → Q (.inl (some (.int (nI c)))) (h', ks, fl'))) :
    xG xs LS (d + 5) 73 (0, xm_entry xP 73 [.ref 22, .int a, .int b, .int (xz pr)], []) (h, ks, fl) Q := by
  show xG xs LS (d + 5) 73 (0, [some (.ref 22), some (.int a), some (.int b), some (.int (xz pr)), none, none], []) (h, ks, fl) Q
  obtain ⟨Mp, Mfw, Mfs, MS, MZ, MA, MN, hM, hA, hN⟩ := hM
  obtain ⟨g22, g23, g24, g25, g26, g27, g28, g29, g30, g31, g32, g33, g34, g35, g36, g37, g38, g39⟩ := id hM
  have hc12 : xunu Mt 12 0 ≤ 12 := by have := xunu_le Mt 12 0; omega
  have bad : ∀ v, 0 < v → cd_request Mn Mt a b = v → xG xs LS (d + 5) 73 (48, [some (.ref 22), some (.int a), some (.int b), some (.int (xz pr)), some (.int (nI (xunu Mt 12 0))), none], [.int v, .ref 22]) (h, ks, fl) Q := by
    intro v hv hc
    have hv0 : ¬ v = 0 := fun q => by rw [q] at hv; exact absurd hv (by decide)
    refine xg_putf (fs' := [_, _, _, _, _, _, _, _, _, _, _, _, _, _, _, _, _, _, _, _, _, _, _, _]) xa_M_request_48 (by assumption) (Nat.le_of_ble_eq_true rfl) rfl rfl (fun h48 u48 => ?_)
    have hM1 := xMd_o (Mc' := v) hM u48
    obtain ⟨g22, g23, g24, g25, g26, g27, g28, g29, g30, g31, g32, g33, g34, g35, g36, g37, g38, g39⟩ := id hM1
    refine xg_aload_n xa_M_request_51 rfl ?_
    refine xg_getfield xa_M_request_52 (by assumption) rfl ?_
    refine xg_if_le xa_M_request_55 (fun c => absurd hv (Int32.not_lt.mpr c)) (fun _ => ?_)
    refine xg_iconst (v := 0) xa_M_request_58 (by decide) ?_
    refine xg_ireturn xa_M_request_59  ?_
    exact k1 v hv0 hc _ _ ⟨_, _, _, _, _, _, _, hM1, hA, hN⟩ (u48.toS (by decide) (by decide))
  have bad1 : (xnS Mn a = true ∨ xnS Mn b = true) → xG xs LS (d + 5) 73 (23, [some (.ref 22), some (.int a), some (.int b), some (.int (xz pr)), some (.int (nI (xunu Mt 12 0))), none], [.ref 22]) (h, ks, fl) Q := by
    intro hc
    refine xg_iconst (v := 1) xa_M_request_23 (by decide) ?_
    refine xg_goto xa_M_request_24 ?_
    exact bad 1 (by decide) (by unfold cd_request; rw [if_pos hc])
  refine xg_aload_n xa_M_request_0 rfl ?_
  refine xg_callV1 xa_M_request_1 ⟨Nat.le_of_ble_eq_true rfl, Nat.le_of_ble_eq_true rfl, rfl⟩ rfl rfl (by assumption) ?_
  refine c_M_unused hM ?_
  refine xK1_c ?_
  refine xg_istore (L' := [_, _, _, _, _, _]) xa_M_request_4 (Nat.le_of_ble_eq_true rfl) rfl ?_
  refine xg_aload_n xa_M_request_6 rfl ?_
  refine xg_aload_n xa_M_request_7 rfl ?_
  refine xg_iload_n xa_M_request_8 rfl ?_
  refine xg_callV1 xa_M_request_9 ⟨Nat.le_of_ble_eq_true rfl, Nat.le_of_ble_eq_true rfl, rfl⟩ rfl rfl (by assumption) ?_
  refine c_M_noSite hM ?_
  refine xK1_c ?_
  refine xg_if_ne xa_M_request_12 (fun c => bad1 (Or.inl (xz1 c))) (fun c6 => ?_)
  refine xg_aload_n xa_M_request_15 rfl ?_
  refine xg_iload_n xa_M_request_16 rfl ?_
  refine xg_callV1 xa_M_request_17 ⟨Nat.le_of_ble_eq_true rfl, Nat.le_of_ble_eq_true rfl, rfl⟩ rfl rfl (by assumption) ?_
  refine c_M_noSite hM ?_
  refine xK1_c ?_
  refine xg_if_eq xa_M_request_20 (fun c14 => ?_) (fun c => bad1 (Or.inr (xz1 c)))
  have n1 : ¬ (xnS Mn a = true ∨ xnS Mn b = true) := fun q => by
    rw [(xz0 _).mp c6, (xz0 _).mp c14] at q
    rcases q with q | q <;> cases q
  refine xg_iload_n xa_M_request_27 rfl ?_
  refine xg_iload_n xa_M_request_28 rfl ?_
  refine xg_icmp_ne xa_M_request_29 (fun c29 => ?_) (fun c => ?_)
  · refine xg_iload xa_M_request_36 rfl ?_
    refine xg_bipush (v := 12) xa_M_request_38 (by decide) ?_
    refine xg_icmp_ne xa_M_request_40 (fun c40 => ?_) (fun c => ?_)
    · have hcl : ¬ xunu Mt 12 0 = 12 := fun q => c40 (by rw [q]; rfl)
      have e0 : cd_request Mn Mt a b = 0 := by unfold cd_request; rw [if_neg n1, if_neg c29, if_neg hcl]
      obtain ⟨x, hx, rfl⟩ := xi_s (by omega) ((xz0 _).mp c6)
      obtain ⟨y, hy, rfl⟩ := xi_s (by omega) ((xz0 _).mp c14)
      have hxy : ¬ x = y := fun q => c29 (by rw [q])
      have kk := fun c h' fl' hcc hc12 => k0 e0 x y c h' fl' hx hy hxy rfl rfl hcc hc12
      clear k0 k1 bad bad1
      generalize hcu : xunu Mt 12 0 = c at *
      have hc : c < 12 := by omega
      have kk := fun h' fl' => kk c h' fl' rfl hc
      refine xg_iconst (v := 0) xa_M_request_47 (by decide) ?_
      refine xg_putf (fs' := [_, _, _, _, _, _, _, _, _, _, _, _, _, _, _, _, _, _, _, _, _, _, _, _]) xa_M_request_48 (by assumption) (Nat.le_of_ble_eq_true rfl) rfl rfl (fun h48 u48 => ?_)
      have hM1 := xMd_o (Mc' := 0) hM u48
      obtain ⟨g22, g23, g24, g25, g26, g27, g28, g29, g30, g31, g32, g33, g34, g35, g36, g37, g38, g39⟩ := id hM1
      refine xg_aload_n xa_M_request_51 rfl ?_
      refine xg_getfield xa_M_request_52 (by assumption) rfl ?_
      refine xg_if_le xa_M_request_55 (fun _ => ?_) (fun c => absurd (by decide) c)
      have loop : ∀ n w h1 fl', w + n = 4 → xlay (xfw Mm Me Ml Mbr Mlk Mt Mw Mwk Msp x y pr) n w = xlay (xfw Mm Me Ml Mbr Mlk Mt Mw Mwk Msp x y pr) 4 0 → xMs h1 0 Mn Mm Mh Me Ml Mbr Mlk Mt Mg Ma Mb Mw Mwk Msp Mon Mct → xS h h1 22 40 → xG xs LS (d + 5) 73 (63, [some (.ref 22), some (.int (nI x)), some (.int (nI y)), some (.int (xz pr)), some (.int (nI c)), some (.int (nI w))], []) (h1, ks, fl') Q := by
        intro n
        induction n with
        | zero =>
          intro w h1 fl' hw hl hM hS
          have e : w = 4 := by omega
          subst e
          refine xg_iload xa_M_request_63 rfl ?_
          refine xg_iconst (v := 4) xa_M_request_65 (by decide) ?_
          refine xg_icmp_ge xa_M_request_66 (fun c66 => ?_) (fun c66 => absurd (by decide) c66)
          refine xg_iconst (v := (-1)) xa_M_request_130 (by decide) ?_
          refine xg_ireturn xa_M_request_131  ?_
          exact (kk _ _).1 hl.symm hM hS
        | succ n ih =>
          intro w h1 fl' hw hl hM hS
          have hM0 := hM
          obtain ⟨Mp, Mfw, Mfs, MS, MZ, MA, MN, hM, hA, hN⟩ := hM
          obtain ⟨g22, g23, g24, g25, g26, g27, g28, g29, g30, g31, g32, g33, g34, g35, g36, g37, g38, g39⟩ := id hM
          refine xg_iload xa_M_request_63 rfl ?_
          refine xg_iconst (v := 4) xa_M_request_65 (by decide) ?_
          refine xg_icmp_ge xa_M_request_66 (fun c => absurd c (show ¬ nI 4 ≤ nI w from nI_ge (by omega) (by omega))) (fun _ => ?_)
          refine xg_aload_n xa_M_request_69 rfl ?_
          refine xg_iload xa_M_request_70 rfl ?_
          refine xg_iload_n xa_M_request_72 rfl ?_
          refine xg_iload_n xa_M_request_73 rfl ?_
          refine xg_iload_n xa_M_request_74 rfl ?_
          refine xg_callV1 xa_M_request_75 ⟨Nat.le_of_ble_eq_true rfl, Nat.le_of_ble_eq_true rfl, rfl⟩ rfl rfl (by assumption) ?_
          unfold xlay at hl
          refine c_M_find hm hE (by omega) (by omega) (fun s => hF x y s hx hy hxy) hM0 (fun h2 fl2 q1 q2 q3 => ?_) (fun h2 fl2 p Mp MS MZ MA MN q1 q2 q3 q4 q5 => ?_)
          · refine xK1_d ?_
            rw [q3] at hl
            refine xg_if_eq xa_M_request_78 (fun _ => ?_) (fun c => absurd rfl c)
            refine xg_iinc (L' := [_, _, _, _, _, _]) xa_M_request_124 rfl (xi_inc _) rfl ?_
            refine xg_goto xa_M_request_127 ?_
            exact ih (w + 1) h2 _ (by omega) hl q1 (hS.tr q2)
          · refine xK1_d ?_
            rw [q5] at hl
            refine xg_if_eq xa_M_request_78 (fun c => absurd c (by decide)) (fun _ => ?_)
            have hxx : (1 : Int32) = 0 ∨ (1 : Int32) = 1 := Or.inr rfl
            have hxp := xz01 pr
            obtain ⟨g22, g23, g24, g25, g26, g27, g28, g29, g30, g31, g32, g33, g34, g35, g36, g37, g38, g39⟩ := id q1
            refine xg_aload_n xa_M_request_81 rfl ?_
            refine xg_getfield xa_M_request_82 (by assumption) rfl ?_
            refine xg_iload xa_M_request_85 rfl ?_
            refine xg_iconst (v := 1) xa_M_request_87 (by decide) ?_
            refine xg_zastf_n xa_M_request_88 (by assumption) rfl (by assumption) (by decide) (by assumption) (fun h88 u88 => ?_)
            have r1 := xMd_Mt (x := true) q1 u88
            obtain ⟨g22, g23, g24, g25, g26, g27, g28, g29, g30, g31, g32, g33, g34, g35, g36, g37, g38, g39⟩ := id r1
            refine xg_aload_n xa_M_request_89 rfl ?_
            refine xg_getfield xa_M_request_90 (by assumption) rfl ?_
            refine xg_iload xa_M_request_93 rfl ?_
            refine xg_iload_n xa_M_request_95 rfl ?_
            refine xg_zastf_n xa_M_request_96 (by assumption) rfl (by assumption) (by decide) (by assumption) (fun h96 u96 => ?_)
            have r2 := xMd_Mg r1 u96
            obtain ⟨g22, g23, g24, g25, g26, g27, g28, g29, g30, g31, g32, g33, g34, g35, g36, g37, g38, g39⟩ := id r2
            refine xg_aload_n xa_M_request_97 rfl ?_
            refine xg_getfield xa_M_request_98 (by assumption) rfl ?_
            refine xg_iload xa_M_request_101 rfl ?_
            refine xg_iload_n xa_M_request_103 rfl ?_
            refine xg_iastf_n xa_M_request_104 (by assumption) rfl (by assumption) (by decide) (fun h104 u104 => ?_)
            have r3 := xMd_Ma r2 u104
            obtain ⟨g22, g23, g24, g25, g26, g27, g28, g29, g30, g31, g32, g33, g34, g35, g36, g37, g38, g39⟩ := id r3
            refine xg_aload_n xa_M_request_105 rfl ?_
            refine xg_getfield xa_M_request_106 (by assumption) rfl ?_
            refine xg_iload xa_M_request_109 rfl ?_
            refine xg_iload_n xa_M_request_111 rfl ?_
            refine xg_iastf_n xa_M_request_112 (by assumption) rfl (by assumption) (by decide) (fun h112 u112 => ?_)
            have r4 := xMd_Mb r3 u112
            obtain ⟨g22, g23, g24, g25, g26, g27, g28, g29, g30, g31, g32, g33, g34, g35, g36, g37, g38, g39⟩ := id r4
            refine xg_aload_n xa_M_request_113 rfl ?_
            refine xg_iload xa_M_request_114 rfl ?_
            refine xg_iload xa_M_request_116 rfl ?_
            refine xg_callV0 xa_M_request_118 ⟨Nat.le_of_ble_eq_true rfl, Nat.le_of_ble_eq_true rfl, rfl⟩ rfl rfl (by assumption) ?_
            refine c_M_take hc r4 (fun h5 fl5 r5 s5 => ?_)
            refine xK0_d ?_
            refine xg_iload xa_M_request_121 rfl ?_
            refine xg_ireturn xa_M_request_123 ((kk _ _).2 w p.1 p.2 hl.symm ⟨_, _, _, _, _, _, _, r5, q2, q3⟩ ?_)
            exact (((((hS.tr q4).tr (u88.toS (by decide) (by decide))).tr (u96.toS (by decide) (by decide))).tr (u104.toS (by decide) (by decide))).tr (u112.toS (by decide) (by decide))).tr s5
      refine xg_iconst (v := 0) xa_M_request_60 (by decide) ?_
      refine xg_istore (L' := [_, _, _, _, _, _]) xa_M_request_61 (Nat.le_of_ble_eq_true rfl) rfl ?_
      exact loop 4 0 _ _ (by omega) rfl ⟨_, _, _, _, _, _, _, hM1, hA, hN⟩ (u48.toS (by decide) (by decide))
    · have hcl : xunu Mt 12 0 = 12 := (nI_eq (by omega) (by omega)).mp (show nI (xunu Mt 12 0) = nI 12 from c)
      refine xg_iconst (v := 3) xa_M_request_43 (by decide) ?_
      refine xg_goto xa_M_request_44 ?_
      exact bad 3 (by decide) (by unfold cd_request; rw [if_neg n1, if_neg c29, if_pos hcl])
  · refine xg_iconst (v := 2) xa_M_request_32 (by decide) ?_
    refine xg_goto xa_M_request_33 ?_
    exact bad 2 (by decide) (by unfold cd_request; rw [if_neg n1, if_pos c])
def cd_conn (t : Nat → Bool) (x : Int32) : Int32 := if xnC t x = true then 1 else 0
theorem xi_c {t : Nat → Bool} {x : Int32} (h : xnC t x = false) : ∃ c, c < 12 ∧ x = nI c ∧ t c = true := by
  unfold xnC at h
  rw [Bool.or_eq_false_iff, Bool.or_eq_false_iff, decide_eq_false_iff_not, decide_eq_false_iff_not] at h
  obtain ⟨c, hc, rfl⟩ := xi_12 h.1.1 h.1.2
  refine ⟨c, hc, rfl, ?_⟩
  have := h.2
  rw [nI_clamp (by omega)] at this
  simpa using this
theorem c_M_release {x : Int32} (hM : xMs h Mc Mn Mm Mh Me Ml Mbr Mlk Mt Mg Ma Mb Mw Mwk Msp Mon Mct)
    (k1 : cd_conn Mt x = 1 → ∀ h' fl', xMs h' 1 Mn Mm Mh Me Ml Mbr Mlk Mt Mg Ma Mb Mw Mwk Msp Mon Mct → xS h h' 22 40 → Q (.inl none) (h', ks, fl'))
    (k0 : cd_conn Mt x = 0 → ∀ c h' fl', c < 12 → x = nI c → Mt c = true → xMs h' 0 Mn Mm Mh Me Ml Mbr Mlk (xup Mt c false) Mg Ma Mb Mw Mwk Msp Mon Mct → xS h h' 22 40 → Q (.inl none) (h', ks, fl')) :
    xG xs LS (d + 1) 86 (0, xm_entry xP 86 [.ref 22, .int x], []) (h, ks, fl) Q := by
  show xG xs LS (d + 1) 86 (0, [some (.ref 22), some (.int x)], []) (h, ks, fl) Q
  obtain ⟨Mp, Mfw, Mfs, MS, MZ, MA, MN, hM, hA, hN⟩ := hM
  obtain ⟨g22, g23, g24, g25, g26, g27, g28, g29, g30, g31, g32, g33, g34, g35, g36, g37, g38, g39⟩ := id hM
  unfold cd_conn at k1 k0
  refine xg_aload_n xa_M_release_0 rfl ?_
  refine xg_aload_n xa_M_release_1 rfl ?_
  refine xg_iload_n xa_M_release_2 rfl ?_
  refine xg_callV1 xa_M_release_3 ⟨Nat.le_of_ble_eq_true rfl, Nat.le_of_ble_eq_true rfl, rfl⟩ rfl rfl (by assumption) ?_
  refine c_M_noConnection hM ?_
  refine xK1_c ?_
  refine xg_if_eq xa_M_release_6 (fun c => ?_) (fun c => ?_)
  · have hf := (xz0 _).mp c
    obtain ⟨j, hj, rfl, ht⟩ := xi_c hf
    rw [if_neg (by rw [hf]; decide)] at k0
    refine xg_iconst (v := 0) xa_M_release_13 (by decide) ?_
    refine xg_putf (fs' := [_, _, _, _, _, _, _, _, _, _, _, _, _, _, _, _, _, _, _, _, _, _, _, _]) xa_M_release_14 (by assumption) (Nat.le_of_ble_eq_true rfl) rfl rfl (fun h14 u14 => ?_)
    have hM1 := xMd_o (Mc' := 0) hM u14
    obtain ⟨g22, g23, g24, g25, g26, g27, g28, g29, g30, g31, g32, g33, g34, g35, g36, g37, g38, g39⟩ := id hM1
    have hxx : (0 : Int32) = 0 ∨ (0 : Int32) = 1 := Or.inl rfl
    refine xg_aload_n xa_M_release_17 rfl ?_
    refine xg_getfield xa_M_release_18 (by assumption) rfl ?_
    refine xg_if_ne xa_M_release_21 (fun c => absurd rfl c) (fun _ => ?_)
    refine xg_aload_n xa_M_release_24 rfl ?_
    refine xg_getfield xa_M_release_25 (by assumption) rfl ?_
    refine xg_iload_n xa_M_release_28 rfl ?_
    refine xg_iconst (v := 0) xa_M_release_29 (by decide) ?_
    refine xg_zastf_n xa_M_release_30 (by assumption) rfl (by assumption) (by decide) (by assumption) (fun h30 u30 => ?_)
    have hM2 := xMd_Mt (x := false) hM1 u30
    exact xg_return xa_M_release_31 (k0 rfl j _ _ hj rfl ht ⟨_, _, _, _, _, _, _, hM2, hA, hN⟩ ((u14.toS (by decide) (by decide)).tr (u30.toS (by decide) (by decide))))
  · rw [if_pos (xz1 c)] at k1
    refine xg_iconst (v := 1) xa_M_release_9 (by decide) ?_
    refine xg_goto xa_M_release_10 ?_
    refine xg_putf (fs' := [_, _, _, _, _, _, _, _, _, _, _, _, _, _, _, _, _, _, _, _, _, _, _, _]) xa_M_release_14 (by assumption) (Nat.le_of_ble_eq_true rfl) rfl rfl (fun h14 u14 => ?_)
    have hM1 := xMd_o (Mc' := 1) hM u14
    obtain ⟨g22, g23, g24, g25, g26, g27, g28, g29, g30, g31, g32, g33, g34, g35, g36, g37, g38, g39⟩ := id hM1
    refine xg_aload_n xa_M_release_17 rfl ?_
    refine xg_getfield xa_M_release_18 (by assumption) rfl ?_
    refine xg_if_ne xa_M_release_21 (fun _ => ?_) (fun c => absurd c (by decide))
    exact xg_return xa_M_release_31 (k1 rfl _ _ ⟨_, _, _, _, _, _, _, hM1, hA, hN⟩ (u14.toS (by decide) (by decide)))
def cd_lock (m : Nat) (lk : Nat → Bool) (x : Int32) (on : Bool) : Int32 := if xnS m x = true then 1 else if lk x.toNatClampNeg = on then 2 else 0
theorem c_M_lock {x : Int32} {on : Bool} (hm : Mm ≤ 14) (hM : xMs h Mc Mn Mm Mh Me Ml Mbr Mlk Mt Mg Ma Mb Mw Mwk Msp Mon Mct)
    (k1 : ∀ v, ¬ v = 0 → cd_lock Mm Mlk x on = v → ∀ h' fl', xMs h' v Mn Mm Mh Me Ml Mbr Mlk Mt Mg Ma Mb Mw Mwk Msp Mon Mct → xS h h' 22 40 → Q (.inl none) (h', ks, fl'))
    (k0 : cd_lock Mm Mlk x on = 0 → ∀ f h' fl', f < Mm → x = nI f → ¬ Mlk f = on → xMs h' 0 Mn Mm Mh Me Ml Mbr (xup Mlk f on) Mt Mg Ma Mb Mw Mwk Msp Mon Mct → xS h h' 22 40 → Q (.inl none) (h', ks, fl')) :
    xG xs LS (d + 1) 88 (0, xm_entry xP 88 [.ref 22, .int x, .int (xz on)], []) (h, ks, fl) Q := by
  show xG xs LS (d + 1) 88 (0, [some (.ref 22), some (.int x), some (.int (xz on))], []) (h, ks, fl) Q
  obtain ⟨Mp, Mfw, Mfs, MS, MZ, MA, MN, hM, hA, hN⟩ := hM
  obtain ⟨g22, g23, g24, g25, g26, g27, g28, g29, g30, g31, g32, g33, g34, g35, g36, g37, g38, g39⟩ := id hM
  unfold cd_lock at k1 k0
  have bad : ∀ v, 0 < v → (if xnS Mm x = true then 1 else if Mlk x.toNatClampNeg = on then 2 else 0) = v → xG xs LS (d + 1) 88 (28, [some (.ref 22), some (.int x), some (.int (xz on))], [.int v, .ref 22]) (h, ks, fl) Q := by
    intro v hv hc
    have hv0 : ¬ v = 0 := fun q => by rw [q] at hv; exact absurd hv (by decide)
    refine xg_putf (fs' := [_, _, _, _, _, _, _, _, _, _, _, _, _, _, _, _, _, _, _, _, _, _, _, _]) xa_M_lock_28 (by assumption) (Nat.le_of_ble_eq_true rfl) rfl rfl (fun h28 u28 => ?_)
    have hM1 := xMd_o (Mc' := v) hM u28
    obtain ⟨g22, g23, g24, g25, g26, g27, g28, g29, g30, g31, g32, g33, g34, g35, g36, g37, g38, g39⟩ := id hM1
    refine xg_aload_n xa_M_lock_31 rfl ?_
    refine xg_getfield xa_M_lock_32 (by assumption) rfl ?_
    refine xg_if_ne xa_M_lock_35 (fun _ => ?_) (fun c => absurd c hv0)
    exact xg_return xa_M_lock_45 (k1 v hv0 hc _ _ ⟨_, _, _, _, _, _, _, hM1, hA, hN⟩ (u28.toS (by decide) (by decide)))
  refine xg_aload_n xa_M_lock_0 rfl ?_
  refine xg_aload_n xa_M_lock_1 rfl ?_
  refine xg_iload_n xa_M_lock_2 rfl ?_
  refine xg_callV1 xa_M_lock_3 ⟨Nat.le_of_ble_eq_true rfl, Nat.le_of_ble_eq_true rfl, rfl⟩ rfl rfl (by assumption) ?_
  refine c_M_noFibre hM ?_
  refine xK1_c ?_
  refine xg_if_eq xa_M_lock_6 (fun c => ?_) (fun c => ?_)
  · have hf := (xz0 _).mp c
    obtain ⟨j, hj, rfl⟩ := xi_s (by omega) hf
    have hj14 : j < 14 := by omega
    rw [if_neg (show ¬ xnS Mm (nI j) = true by rw [hf]; decide), nI_clamp (by omega)] at k0 bad
    refine xg_aload_n xa_M_lock_13 rfl ?_
    refine xg_getfield xa_M_lock_14 (by assumption) rfl ?_
    refine xg_iload_n xa_M_lock_17 rfl ?_
    refine xg_zald_n xa_M_lock_18 (by assumption) rfl (by assumption) (by decide) ?_
    refine xg_iload_n xa_M_lock_19 rfl ?_
    refine xg_icmp_ne xa_M_lock_20 (fun c => ?_) (fun c => ?_)
    · have hne : ¬ Mlk j = on := fun q => c (by rw [q])
      rw [if_neg hne] at k0
      refine xg_iconst (v := 0) xa_M_lock_27 (by decide) ?_
      refine xg_putf (fs' := [_, _, _, _, _, _, _, _, _, _, _, _, _, _, _, _, _, _, _, _, _, _, _, _]) xa_M_lock_28 (by assumption) (Nat.le_of_ble_eq_true rfl) rfl rfl (fun h28 u28 => ?_)
      have hM1 := xMd_o (Mc' := 0) hM u28
      obtain ⟨g22, g23, g24, g25, g26, g27, g28, g29, g30, g31, g32, g33, g34, g35, g36, g37, g38, g39⟩ := id hM1
      have hxx := xz01 on
      refine xg_aload_n xa_M_lock_31 rfl ?_
      refine xg_getfield xa_M_lock_32 (by assumption) rfl ?_
      refine xg_if_ne xa_M_lock_35 (fun c => absurd rfl c) (fun _ => ?_)
      refine xg_aload_n xa_M_lock_38 rfl ?_
      refine xg_getfield xa_M_lock_39 (by assumption) rfl ?_
      refine xg_iload_n xa_M_lock_42 rfl ?_
      refine xg_iload_n xa_M_lock_43 rfl ?_
      refine xg_zastf_n xa_M_lock_44 (by assumption) rfl (by assumption) (by decide) (by assumption) (fun h44 u44 => ?_)
      have hM2 := xMd_Mlk hM1 u44
      exact xg_return xa_M_lock_45 (k0 rfl j _ _ hj rfl hne ⟨_, _, _, _, _, _, _, hM2, hA, hN⟩ ((u28.toS (by decide) (by decide)).tr (u44.toS (by decide) (by decide))))
    · refine xg_iconst (v := 2) xa_M_lock_23 (by decide) ?_
      refine xg_goto xa_M_lock_24 ?_
      exact bad 2 (by decide) (if_pos (xz_inj.mp c))
  · refine xg_iconst (v := 1) xa_M_lock_9 (by decide) ?_
    refine xg_goto xa_M_lock_10 ?_
    exact bad 1 (by decide) (if_pos (xz1 c))
end XM9
