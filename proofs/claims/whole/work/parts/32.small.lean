/-! 32.small: the model's smallest methods. -/
theorem xa_M_thrown_0 : xm_at xP 69 0 = some (0, .aload_n 0, 0, 0, 0, 0) := by decide +kernel
theorem xa_M_thrown_1 : xm_at xP 69 1 = some (1, .getfield 66, 3, 0, 0, 0) := by decide +kernel
theorem xa_M_thrown_4 : xm_at xP 69 4 = some (4, .ireturn, 0, 0, 0, 0) := by decide +kernel
theorem xa_M_noSite_0 : xm_at xP 72 0 = some (0, .iload_n 1, 0, 0, 0, 0) := by decide +kernel
theorem xa_M_noSite_1 : xm_at xP 72 1 = some (1, .ifCond .lt 11, 12, 0, 0, 0) := by decide +kernel
theorem xa_M_noSite_4 : xm_at xP 72 4 = some (4, .iload_n 1, 0, 0, 0, 0) := by decide +kernel
theorem xa_M_noSite_5 : xm_at xP 72 5 = some (5, .aload_n 0, 0, 0, 0, 0) := by decide +kernel
theorem xa_M_noSite_6 : xm_at xP 72 6 = some (6, .getfield 7, 3, 1, 0, 0) := by decide +kernel
theorem xa_M_noSite_9 : xm_at xP 72 9 = some (9, .if_icmp .lt 7, 16, 0, 0, 0) := by decide +kernel
theorem xa_M_noSite_12 : xm_at xP 72 12 = some (12, .iconst 1, 0, 0, 0, 0) := by decide +kernel
theorem xa_M_noSite_13 : xm_at xP 72 13 = some (13, .goto 4, 17, 0, 0, 0) := by decide +kernel
theorem xa_M_noSite_16 : xm_at xP 72 16 = some (16, .iconst 0, 0, 0, 0, 0) := by decide +kernel
theorem xa_M_noSite_17 : xm_at xP 72 17 = some (17, .ireturn, 0, 0, 0, 1) := by decide +kernel
theorem xa_M_noFibre_0 : xm_at xP 89 0 = some (0, .iload_n 1, 0, 0, 0, 0) := by decide +kernel
theorem xa_M_noFibre_1 : xm_at xP 89 1 = some (1, .ifCond .lt 11, 12, 0, 0, 0) := by decide +kernel
theorem xa_M_noFibre_4 : xm_at xP 89 4 = some (4, .iload_n 1, 0, 0, 0, 0) := by decide +kernel
theorem xa_M_noFibre_5 : xm_at xP 89 5 = some (5, .aload_n 0, 0, 0, 0, 0) := by decide +kernel
theorem xa_M_noFibre_6 : xm_at xP 89 6 = some (6, .getfield 69, 3, 2, 0, 0) := by decide +kernel
theorem xa_M_noFibre_9 : xm_at xP 89 9 = some (9, .if_icmp .lt 7, 16, 0, 0, 0) := by decide +kernel
theorem xa_M_noFibre_12 : xm_at xP 89 12 = some (12, .iconst 1, 0, 0, 0, 0) := by decide +kernel
theorem xa_M_noFibre_13 : xm_at xP 89 13 = some (13, .goto 4, 17, 0, 0, 0) := by decide +kernel
theorem xa_M_noFibre_16 : xm_at xP 89 16 = some (16, .iconst 0, 0, 0, 0, 0) := by decide +kernel
theorem xa_M_noFibre_17 : xm_at xP 89 17 = some (17, .ireturn, 0, 0, 0, 1) := by decide +kernel
theorem xa_M_noConnection_0 : xm_at xP 87 0 = some (0, .iload_n 1, 0, 0, 0, 0) := by decide +kernel
theorem xa_M_noConnection_1 : xm_at xP 87 1 = some (1, .ifCond .lt 18, 19, 0, 0, 0) := by decide +kernel
theorem xa_M_noConnection_4 : xm_at xP 87 4 = some (4, .iload_n 1, 0, 0, 0, 0) := by decide +kernel
theorem xa_M_noConnection_5 : xm_at xP 87 5 = some (5, .bipush 11, 0, 0, 0, 0) := by decide +kernel
theorem xa_M_noConnection_7 : xm_at xP 87 7 = some (7, .if_icmp .gt 12, 19, 0, 0, 0) := by decide +kernel
theorem xa_M_noConnection_10 : xm_at xP 87 10 = some (10, .aload_n 0, 0, 0, 0, 0) := by decide +kernel
theorem xa_M_noConnection_11 : xm_at xP 87 11 = some (11, .getfield 27, 3, 8, 0, 0) := by decide +kernel
theorem xa_M_noConnection_14 : xm_at xP 87 14 = some (14, .iload_n 1, 0, 0, 0, 0) := by decide +kernel
theorem xa_M_noConnection_15 : xm_at xP 87 15 = some (15, .baload, 0, 0, 0, 0) := by decide +kernel
theorem xa_M_noConnection_16 : xm_at xP 87 16 = some (16, .ifCond .ne 7, 23, 0, 0, 0) := by decide +kernel
theorem xa_M_noConnection_19 : xm_at xP 87 19 = some (19, .iconst 1, 0, 0, 0, 0) := by decide +kernel
theorem xa_M_noConnection_20 : xm_at xP 87 20 = some (20, .goto 4, 24, 0, 0, 0) := by decide +kernel
theorem xa_M_noConnection_23 : xm_at xP 87 23 = some (23, .iconst 0, 0, 0, 0, 0) := by decide +kernel
theorem xa_M_noConnection_24 : xm_at xP 87 24 = some (24, .ireturn, 0, 0, 0, 1) := by decide +kernel
theorem xa_M_bit_0 : xm_at xP 78 0 = some (0, .iload_n 0, 0, 0, 0, 0) := by decide +kernel
theorem xa_M_bit_1 : xm_at xP 78 1 = some (1, .iload_n 1, 0, 0, 0, 0) := by decide +kernel
theorem xa_M_bit_2 : xm_at xP 78 2 = some (2, .ishr, 0, 0, 0, 0) := by decide +kernel
theorem xa_M_bit_3 : xm_at xP 78 3 = some (3, .iconst 1, 0, 0, 0, 0) := by decide +kernel
theorem xa_M_bit_4 : xm_at xP 78 4 = some (4, .iand, 0, 0, 0, 0) := by decide +kernel
theorem xa_M_bit_5 : xm_at xP 78 5 = some (5, .ireturn, 0, 0, 0, 0) := by decide +kernel
theorem xa_M_lengthOf_0 : xm_at xP 81 0 = some (0, .iconst 0, 0, 0, 0, 0) := by decide +kernel
theorem xa_M_lengthOf_1 : xm_at xP 81 1 = some (1, .istore_n 2, 0, 0, 0, 0) := by decide +kernel
theorem xa_M_lengthOf_2 : xm_at xP 81 2 = some (2, .iconst 0, 0, 0, 0, 0) := by decide +kernel
theorem xa_M_lengthOf_3 : xm_at xP 81 3 = some (3, .istore_n 3, 0, 0, 0, 0) := by decide +kernel
theorem xa_M_lengthOf_4 : xm_at xP 81 4 = some (4, .iload_n 3, 0, 0, 0, 0) := by decide +kernel
theorem xa_M_lengthOf_5 : xm_at xP 81 5 = some (5, .aload_n 0, 0, 0, 0, 0) := by decide +kernel
theorem xa_M_lengthOf_6 : xm_at xP 81 6 = some (6, .getfield 69, 3, 2, 0, 0) := by decide +kernel
theorem xa_M_lengthOf_9 : xm_at xP 81 9 = some (9, .if_icmp .ge 24, 33, 0, 0, 0) := by decide +kernel
theorem xa_M_lengthOf_12 : xm_at xP 81 12 = some (12, .iload_n 2, 0, 0, 0, 0) := by decide +kernel
theorem xa_M_lengthOf_13 : xm_at xP 81 13 = some (13, .iload_n 1, 0, 0, 0, 0) := by decide +kernel
theorem xa_M_lengthOf_14 : xm_at xP 81 14 = some (14, .iload_n 3, 0, 0, 0, 0) := by decide +kernel
theorem xa_M_lengthOf_15 : xm_at xP 81 15 = some (15, .invokestatic 72, 78, 2, 0, 0) := by decide +kernel
theorem xa_M_lengthOf_18 : xm_at xP 81 18 = some (18, .aload_n 0, 0, 0, 0, 0) := by decide +kernel
theorem xa_M_lengthOf_19 : xm_at xP 81 19 = some (19, .getfield 17, 3, 4, 0, 0) := by decide +kernel
theorem xa_M_lengthOf_22 : xm_at xP 81 22 = some (22, .iload_n 3, 0, 0, 0, 0) := by decide +kernel
theorem xa_M_lengthOf_23 : xm_at xP 81 23 = some (23, .iaload, 0, 0, 0, 0) := by decide +kernel
theorem xa_M_lengthOf_24 : xm_at xP 81 24 = some (24, .imul, 0, 0, 0, 0) := by decide +kernel
theorem xa_M_lengthOf_25 : xm_at xP 81 25 = some (25, .iadd, 0, 0, 0, 0) := by decide +kernel
theorem xa_M_lengthOf_26 : xm_at xP 81 26 = some (26, .istore_n 2, 0, 0, 0, 0) := by decide +kernel
theorem xa_M_lengthOf_27 : xm_at xP 81 27 = some (27, .iinc 3 1, 0, 0, 0, 0) := by decide +kernel
theorem xa_M_lengthOf_30 : xm_at xP 81 30 = some (30, .goto (-26), 4, 0, 0, 0) := by decide +kernel
theorem xa_M_lengthOf_33 : xm_at xP 81 33 = some (33, .iload_n 2, 0, 0, 0, 0) := by decide +kernel
theorem xa_M_lengthOf_34 : xm_at xP 81 34 = some (34, .ireturn, 0, 0, 0, 0) := by decide +kernel
theorem xa_M_before_0 : xm_at xP 83 0 = some (0, .iconst 0, 0, 0, 0, 0) := by decide +kernel
theorem xa_M_before_1 : xm_at xP 83 1 = some (1, .istore_n 2, 0, 0, 0, 0) := by decide +kernel
theorem xa_M_before_2 : xm_at xP 83 2 = some (2, .iload_n 2, 0, 0, 0, 0) := by decide +kernel
theorem xa_M_before_3 : xm_at xP 83 3 = some (3, .bipush 14, 0, 0, 0, 0) := by decide +kernel
theorem xa_M_before_5 : xm_at xP 83 5 = some (5, .if_icmp .ge 74, 79, 0, 0, 0) := by decide +kernel
theorem xa_M_before_8 : xm_at xP 83 8 = some (8, .iload_n 0, 0, 0, 0, 0) := by decide +kernel
theorem xa_M_before_9 : xm_at xP 83 9 = some (9, .iload_n 2, 0, 0, 0, 0) := by decide +kernel
theorem xa_M_before_10 : xm_at xP 83 10 = some (10, .invokestatic 72, 78, 2, 0, 0) := by decide +kernel
theorem xa_M_before_13 : xm_at xP 83 13 = some (13, .iload_n 1, 0, 0, 0, 0) := by decide +kernel
theorem xa_M_before_14 : xm_at xP 83 14 = some (14, .iload_n 2, 0, 0, 0, 0) := by decide +kernel
theorem xa_M_before_15 : xm_at xP 83 15 = some (15, .invokestatic 72, 78, 2, 0, 0) := by decide +kernel
theorem xa_M_before_18 : xm_at xP 83 18 = some (18, .if_icmp .eq 55, 73, 0, 0, 0) := by decide +kernel
theorem xa_M_before_21 : xm_at xP 83 21 = some (21, .iload_n 0, 0, 0, 0, 0) := by decide +kernel
theorem xa_M_before_22 : xm_at xP 83 22 = some (22, .iload_n 2, 0, 0, 0, 0) := by decide +kernel
theorem xa_M_before_23 : xm_at xP 83 23 = some (23, .invokestatic 72, 78, 2, 0, 0) := by decide +kernel
theorem xa_M_before_26 : xm_at xP 83 26 = some (26, .iconst 1, 0, 0, 0, 0) := by decide +kernel
theorem xa_M_before_27 : xm_at xP 83 27 = some (27, .if_icmp .ne 7, 34, 0, 0, 0) := by decide +kernel
theorem xa_M_before_30 : xm_at xP 83 30 = some (30, .iconst 1, 0, 0, 0, 0) := by decide +kernel
theorem xa_M_before_31 : xm_at xP 83 31 = some (31, .goto 4, 35, 0, 0, 0) := by decide +kernel
theorem xa_M_before_34 : xm_at xP 83 34 = some (34, .iconst 0, 0, 0, 0, 0) := by decide +kernel
theorem xa_M_before_35 : xm_at xP 83 35 = some (35, .istore_n 3, 0, 0, 0, 0) := by decide +kernel
theorem xa_M_before_36 : xm_at xP 83 36 = some (36, .iload_n 3, 0, 0, 0, 0) := by decide +kernel
theorem xa_M_before_37 : xm_at xP 83 37 = some (37, .ifCond .eq 7, 44, 0, 0, 0) := by decide +kernel
theorem xa_M_before_40 : xm_at xP 83 40 = some (40, .iload_n 1, 0, 0, 0, 0) := by decide +kernel
theorem xa_M_before_41 : xm_at xP 83 41 = some (41, .goto 4, 45, 0, 0, 0) := by decide +kernel
theorem xa_M_before_44 : xm_at xP 83 44 = some (44, .iload_n 0, 0, 0, 0, 0) := by decide +kernel
theorem xa_M_before_45 : xm_at xP 83 45 = some (45, .istore 4, 0, 0, 0, 0) := by decide +kernel
theorem xa_M_before_47 : xm_at xP 83 47 = some (47, .iload 4, 0, 0, 0, 0) := by decide +kernel
theorem xa_M_before_49 : xm_at xP 83 49 = some (49, .iload_n 2, 0, 0, 0, 0) := by decide +kernel
theorem xa_M_before_50 : xm_at xP 83 50 = some (50, .ishr, 0, 0, 0, 0) := by decide +kernel
theorem xa_M_before_51 : xm_at xP 83 51 = some (51, .ifCond .le 7, 58, 0, 0, 0) := by decide +kernel
theorem xa_M_before_54 : xm_at xP 83 54 = some (54, .iconst 1, 0, 0, 0, 0) := by decide +kernel
theorem xa_M_before_55 : xm_at xP 83 55 = some (55, .goto 4, 59, 0, 0, 0) := by decide +kernel
theorem xa_M_before_58 : xm_at xP 83 58 = some (58, .iconst 0, 0, 0, 0, 0) := by decide +kernel
theorem xa_M_before_59 : xm_at xP 83 59 = some (59, .istore 5, 0, 0, 0, 0) := by decide +kernel
theorem xa_M_before_61 : xm_at xP 83 61 = some (61, .iload_n 3, 0, 0, 0, 0) := by decide +kernel
theorem xa_M_before_62 : xm_at xP 83 62 = some (62, .iload 5, 0, 0, 0, 0) := by decide +kernel
theorem xa_M_before_64 : xm_at xP 83 64 = some (64, .if_icmp .ne 7, 71, 0, 0, 0) := by decide +kernel
theorem xa_M_before_67 : xm_at xP 83 67 = some (67, .iconst 1, 0, 0, 0, 0) := by decide +kernel
theorem xa_M_before_68 : xm_at xP 83 68 = some (68, .goto 4, 72, 0, 0, 0) := by decide +kernel
theorem xa_M_before_71 : xm_at xP 83 71 = some (71, .iconst 0, 0, 0, 0, 0) := by decide +kernel
theorem xa_M_before_72 : xm_at xP 83 72 = some (72, .ireturn, 0, 0, 0, 1) := by decide +kernel
theorem xa_M_before_73 : xm_at xP 83 73 = some (73, .iinc 2 1, 0, 0, 0, 0) := by decide +kernel
theorem xa_M_before_76 : xm_at xP 83 76 = some (76, .goto (-74), 2, 0, 0, 0) := by decide +kernel
theorem xa_M_before_79 : xm_at xP 83 79 = some (79, .iconst 0, 0, 0, 0, 0) := by decide +kernel
theorem xa_M_before_80 : xm_at xP 83 80 = some (80, .ireturn, 0, 0, 0, 1) := by decide +kernel
theorem xa_M_userOf_0 : xm_at xP 77 0 = some (0, .iconst 0, 0, 0, 0, 0) := by decide +kernel
theorem xa_M_userOf_1 : xm_at xP 77 1 = some (1, .istore_n 3, 0, 0, 0, 0) := by decide +kernel
theorem xa_M_userOf_2 : xm_at xP 77 2 = some (2, .iload_n 3, 0, 0, 0, 0) := by decide +kernel
theorem xa_M_userOf_3 : xm_at xP 77 3 = some (3, .bipush 12, 0, 0, 0, 0) := by decide +kernel
theorem xa_M_userOf_5 : xm_at xP 77 5 = some (5, .if_icmp .ge 51, 56, 0, 0, 0) := by decide +kernel
theorem xa_M_userOf_8 : xm_at xP 77 8 = some (8, .aload_n 0, 0, 0, 0, 0) := by decide +kernel
theorem xa_M_userOf_9 : xm_at xP 77 9 = some (9, .getfield 27, 3, 8, 0, 0) := by decide +kernel
theorem xa_M_userOf_12 : xm_at xP 77 12 = some (12, .iload_n 3, 0, 0, 0, 0) := by decide +kernel
theorem xa_M_userOf_13 : xm_at xP 77 13 = some (13, .baload, 0, 0, 0, 0) := by decide +kernel
theorem xa_M_userOf_14 : xm_at xP 77 14 = some (14, .ifCond .eq 36, 50, 0, 0, 0) := by decide +kernel
theorem xa_M_userOf_17 : xm_at xP 77 17 = some (17, .aload_n 0, 0, 0, 0, 0) := by decide +kernel
theorem xa_M_userOf_18 : xm_at xP 77 18 = some (18, .getfield 39, 3, 12, 0, 0) := by decide +kernel
theorem xa_M_userOf_21 : xm_at xP 77 21 = some (21, .iload_n 3, 0, 0, 0, 0) := by decide +kernel
theorem xa_M_userOf_22 : xm_at xP 77 22 = some (22, .iaload, 0, 0, 0, 0) := by decide +kernel
theorem xa_M_userOf_23 : xm_at xP 77 23 = some (23, .iload_n 2, 0, 0, 0, 0) := by decide +kernel
theorem xa_M_userOf_24 : xm_at xP 77 24 = some (24, .if_icmp .ne 26, 50, 0, 0, 0) := by decide +kernel
theorem xa_M_userOf_27 : xm_at xP 77 27 = some (27, .aload_n 0, 0, 0, 0, 0) := by decide +kernel
theorem xa_M_userOf_28 : xm_at xP 77 28 = some (28, .getfield 42, 3, 13, 0, 0) := by decide +kernel
theorem xa_M_userOf_31 : xm_at xP 77 31 = some (31, .iload_n 3, 0, 0, 0, 0) := by decide +kernel
theorem xa_M_userOf_32 : xm_at xP 77 32 = some (32, .iaload, 0, 0, 0, 0) := by decide +kernel
theorem xa_M_userOf_33 : xm_at xP 77 33 = some (33, .aload_n 0, 0, 0, 0, 0) := by decide +kernel
theorem xa_M_userOf_34 : xm_at xP 77 34 = some (34, .getfield 45, 3, 14, 0, 0) := by decide +kernel
theorem xa_M_userOf_37 : xm_at xP 77 37 = some (37, .iload_n 3, 0, 0, 0, 0) := by decide +kernel
theorem xa_M_userOf_38 : xm_at xP 77 38 = some (38, .iaload, 0, 0, 0, 0) := by decide +kernel
theorem xa_M_userOf_39 : xm_at xP 77 39 = some (39, .ior, 0, 0, 0, 0) := by decide +kernel
theorem xa_M_userOf_40 : xm_at xP 77 40 = some (40, .iload_n 1, 0, 0, 0, 0) := by decide +kernel
theorem xa_M_userOf_41 : xm_at xP 77 41 = some (41, .invokestatic 72, 78, 2, 0, 0) := by decide +kernel
theorem xa_M_userOf_44 : xm_at xP 77 44 = some (44, .iconst 1, 0, 0, 0, 0) := by decide +kernel
theorem xa_M_userOf_45 : xm_at xP 77 45 = some (45, .if_icmp .ne 5, 50, 0, 0, 0) := by decide +kernel
theorem xa_M_userOf_48 : xm_at xP 77 48 = some (48, .iload_n 3, 0, 0, 0, 0) := by decide +kernel
theorem xa_M_userOf_49 : xm_at xP 77 49 = some (49, .ireturn, 0, 0, 0, 0) := by decide +kernel
theorem xa_M_userOf_50 : xm_at xP 77 50 = some (50, .iinc 3 1, 0, 0, 0, 0) := by decide +kernel
theorem xa_M_userOf_53 : xm_at xP 77 53 = some (53, .goto (-51), 2, 0, 0, 0) := by decide +kernel
theorem xa_M_userOf_56 : xm_at xP 77 56 = some (56, .iconst (-1), 0, 0, 0, 0) := by decide +kernel
theorem xa_M_userOf_57 : xm_at xP 77 57 = some (57, .ireturn, 0, 0, 0, 0) := by decide +kernel
theorem xa_M_free_0 : xm_at xP 76 0 = some (0, .iconst 0, 0, 0, 0, 0) := by decide +kernel
theorem xa_M_free_1 : xm_at xP 76 1 = some (1, .istore_n 2, 0, 0, 0, 0) := by decide +kernel
theorem xa_M_free_2 : xm_at xP 76 2 = some (2, .iconst 0, 0, 0, 0, 0) := by decide +kernel
theorem xa_M_free_3 : xm_at xP 76 3 = some (3, .istore_n 3, 0, 0, 0, 0) := by decide +kernel
theorem xa_M_free_4 : xm_at xP 76 4 = some (4, .iload_n 3, 0, 0, 0, 0) := by decide +kernel
theorem xa_M_free_5 : xm_at xP 76 5 = some (5, .aload_n 0, 0, 0, 0, 0) := by decide +kernel
theorem xa_M_free_6 : xm_at xP 76 6 = some (6, .getfield 69, 3, 2, 0, 0) := by decide +kernel
theorem xa_M_free_9 : xm_at xP 76 9 = some (9, .if_icmp .ge 46, 55, 0, 0, 0) := by decide +kernel
theorem xa_M_free_12 : xm_at xP 76 12 = some (12, .aload_n 0, 0, 0, 0, 0) := by decide +kernel
theorem xa_M_free_13 : xm_at xP 76 13 = some (13, .getfield 20, 3, 5, 0, 0) := by decide +kernel
theorem xa_M_free_16 : xm_at xP 76 16 = some (16, .iload_n 3, 0, 0, 0, 0) := by decide +kernel
theorem xa_M_free_17 : xm_at xP 76 17 = some (17, .baload, 0, 0, 0, 0) := by decide +kernel
theorem xa_M_free_18 : xm_at xP 76 18 = some (18, .ifCond .ne 29, 47, 0, 0, 0) := by decide +kernel
theorem xa_M_free_21 : xm_at xP 76 21 = some (21, .aload_n 0, 0, 0, 0, 0) := by decide +kernel
theorem xa_M_free_22 : xm_at xP 76 22 = some (22, .getfield 24, 3, 6, 0, 0) := by decide +kernel
theorem xa_M_free_25 : xm_at xP 76 25 = some (25, .iload_n 3, 0, 0, 0, 0) := by decide +kernel
theorem xa_M_free_26 : xm_at xP 76 26 = some (26, .baload, 0, 0, 0, 0) := by decide +kernel
theorem xa_M_free_27 : xm_at xP 76 27 = some (27, .ifCond .ne 20, 47, 0, 0, 0) := by decide +kernel
theorem xa_M_free_30 : xm_at xP 76 30 = some (30, .aload_n 0, 0, 0, 0, 0) := by decide +kernel
theorem xa_M_free_31 : xm_at xP 76 31 = some (31, .iload_n 3, 0, 0, 0, 0) := by decide +kernel
theorem xa_M_free_32 : xm_at xP 76 32 = some (32, .iload_n 1, 0, 0, 0, 0) := by decide +kernel
theorem xa_M_free_33 : xm_at xP 76 33 = some (33, .invokevirtual 83, 77, 3, 3, 0) := by decide +kernel
theorem xa_M_free_36 : xm_at xP 76 36 = some (36, .ifCond .ge 11, 47, 0, 0, 0) := by decide +kernel
theorem xa_M_free_39 : xm_at xP 76 39 = some (39, .iload_n 2, 0, 0, 0, 0) := by decide +kernel
theorem xa_M_free_40 : xm_at xP 76 40 = some (40, .iconst 1, 0, 0, 0, 0) := by decide +kernel
theorem xa_M_free_41 : xm_at xP 76 41 = some (41, .iload_n 3, 0, 0, 0, 0) := by decide +kernel
theorem xa_M_free_42 : xm_at xP 76 42 = some (42, .ishl, 0, 0, 0, 0) := by decide +kernel
theorem xa_M_free_43 : xm_at xP 76 43 = some (43, .ior, 0, 0, 0, 0) := by decide +kernel
theorem xa_M_free_44 : xm_at xP 76 44 = some (44, .goto 4, 48, 0, 0, 0) := by decide +kernel
theorem xa_M_free_47 : xm_at xP 76 47 = some (47, .iload_n 2, 0, 0, 0, 0) := by decide +kernel
theorem xa_M_free_48 : xm_at xP 76 48 = some (48, .istore_n 2, 0, 0, 0, 0) := by decide +kernel
theorem xa_M_free_49 : xm_at xP 76 49 = some (49, .iinc 3 1, 0, 0, 0, 0) := by decide +kernel
theorem xa_M_free_52 : xm_at xP 76 52 = some (52, .goto (-48), 4, 0, 0, 0) := by decide +kernel
theorem xa_M_free_55 : xm_at xP 76 55 = some (55, .iload_n 2, 0, 0, 0, 0) := by decide +kernel
theorem xa_M_free_56 : xm_at xP 76 56 = some (56, .ireturn, 0, 0, 0, 0) := by decide +kernel
theorem xa_M_leads_0 : xm_at xP 82 0 = some (0, .iload_n 1, 0, 0, 0, 0) := by decide +kernel
theorem xa_M_leads_1 : xm_at xP 82 1 = some (1, .iload_n 2, 0, 0, 0, 0) := by decide +kernel
theorem xa_M_leads_2 : xm_at xP 82 2 = some (2, .invokestatic 72, 78, 2, 0, 0) := by decide +kernel
theorem xa_M_leads_5 : xm_at xP 82 5 = some (5, .ifCond .ne 5, 10, 0, 0, 0) := by decide +kernel
theorem xa_M_leads_8 : xm_at xP 82 8 = some (8, .iconst (-1), 0, 0, 0, 0) := by decide +kernel
theorem xa_M_leads_9 : xm_at xP 82 9 = some (9, .ireturn, 0, 0, 0, 0) := by decide +kernel
theorem xa_M_leads_10 : xm_at xP 82 10 = some (10, .aload_n 0, 0, 0, 0, 0) := by decide +kernel
theorem xa_M_leads_11 : xm_at xP 82 11 = some (11, .getfield 60, 3, 20, 0, 0) := by decide +kernel
theorem xa_M_leads_14 : xm_at xP 82 14 = some (14, .iload_n 3, 0, 0, 0, 0) := by decide +kernel
theorem xa_M_leads_15 : xm_at xP 82 15 = some (15, .iaload, 0, 0, 0, 0) := by decide +kernel
theorem xa_M_leads_16 : xm_at xP 82 16 = some (16, .istore 4, 0, 0, 0, 0) := by decide +kernel
theorem xa_M_leads_18 : xm_at xP 82 18 = some (18, .aload_n 0, 0, 0, 0, 0) := by decide +kernel
theorem xa_M_leads_19 : xm_at xP 82 19 = some (19, .getfield 13, 3, 3, 0, 0) := by decide +kernel
theorem xa_M_leads_22 : xm_at xP 82 22 = some (22, .iconst 2, 0, 0, 0, 0) := by decide +kernel
theorem xa_M_leads_23 : xm_at xP 82 23 = some (23, .iload_n 2, 0, 0, 0, 0) := by decide +kernel
theorem xa_M_leads_24 : xm_at xP 82 24 = some (24, .imul, 0, 0, 0, 0) := by decide +kernel
theorem xa_M_leads_25 : xm_at xP 82 25 = some (25, .iaload, 0, 0, 0, 0) := by decide +kernel
theorem xa_M_leads_26 : xm_at xP 82 26 = some (26, .iload 4, 0, 0, 0, 0) := by decide +kernel
theorem xa_M_leads_28 : xm_at xP 82 28 = some (28, .if_icmp .eq 20, 48, 0, 0, 0) := by decide +kernel
theorem xa_M_leads_31 : xm_at xP 82 31 = some (31, .aload_n 0, 0, 0, 0, 0) := by decide +kernel
theorem xa_M_leads_32 : xm_at xP 82 32 = some (32, .getfield 13, 3, 3, 0, 0) := by decide +kernel
theorem xa_M_leads_35 : xm_at xP 82 35 = some (35, .iconst 2, 0, 0, 0, 0) := by decide +kernel
theorem xa_M_leads_36 : xm_at xP 82 36 = some (36, .iload_n 2, 0, 0, 0, 0) := by decide +kernel
theorem xa_M_leads_37 : xm_at xP 82 37 = some (37, .imul, 0, 0, 0, 0) := by decide +kernel
theorem xa_M_leads_38 : xm_at xP 82 38 = some (38, .iconst 1, 0, 0, 0, 0) := by decide +kernel
theorem xa_M_leads_39 : xm_at xP 82 39 = some (39, .iadd, 0, 0, 0, 0) := by decide +kernel
theorem xa_M_leads_40 : xm_at xP 82 40 = some (40, .iaload, 0, 0, 0, 0) := by decide +kernel
theorem xa_M_leads_41 : xm_at xP 82 41 = some (41, .iload 4, 0, 0, 0, 0) := by decide +kernel
theorem xa_M_leads_43 : xm_at xP 82 43 = some (43, .if_icmp .eq 5, 48, 0, 0, 0) := by decide +kernel
theorem xa_M_leads_46 : xm_at xP 82 46 = some (46, .iconst (-1), 0, 0, 0, 0) := by decide +kernel
theorem xa_M_leads_47 : xm_at xP 82 47 = some (47, .ireturn, 0, 0, 0, 0) := by decide +kernel
theorem xa_M_leads_48 : xm_at xP 82 48 = some (48, .aload_n 0, 0, 0, 0, 0) := by decide +kernel
theorem xa_M_leads_49 : xm_at xP 82 49 = some (49, .getfield 13, 3, 3, 0, 0) := by decide +kernel
theorem xa_M_leads_52 : xm_at xP 82 52 = some (52, .iconst 2, 0, 0, 0, 0) := by decide +kernel
theorem xa_M_leads_53 : xm_at xP 82 53 = some (53, .iload_n 2, 0, 0, 0, 0) := by decide +kernel
theorem xa_M_leads_54 : xm_at xP 82 54 = some (54, .imul, 0, 0, 0, 0) := by decide +kernel
theorem xa_M_leads_55 : xm_at xP 82 55 = some (55, .iaload, 0, 0, 0, 0) := by decide +kernel
theorem xa_M_leads_56 : xm_at xP 82 56 = some (56, .iload 4, 0, 0, 0, 0) := by decide +kernel
theorem xa_M_leads_58 : xm_at xP 82 58 = some (58, .if_icmp .ne 16, 74, 0, 0, 0) := by decide +kernel
theorem xa_M_leads_61 : xm_at xP 82 61 = some (61, .aload_n 0, 0, 0, 0, 0) := by decide +kernel
theorem xa_M_leads_62 : xm_at xP 82 62 = some (62, .getfield 13, 3, 3, 0, 0) := by decide +kernel
theorem xa_M_leads_65 : xm_at xP 82 65 = some (65, .iconst 2, 0, 0, 0, 0) := by decide +kernel
theorem xa_M_leads_66 : xm_at xP 82 66 = some (66, .iload_n 2, 0, 0, 0, 0) := by decide +kernel
theorem xa_M_leads_67 : xm_at xP 82 67 = some (67, .imul, 0, 0, 0, 0) := by decide +kernel
theorem xa_M_leads_68 : xm_at xP 82 68 = some (68, .iconst 1, 0, 0, 0, 0) := by decide +kernel
theorem xa_M_leads_69 : xm_at xP 82 69 = some (69, .iadd, 0, 0, 0, 0) := by decide +kernel
theorem xa_M_leads_70 : xm_at xP 82 70 = some (70, .iaload, 0, 0, 0, 0) := by decide +kernel
theorem xa_M_leads_71 : xm_at xP 82 71 = some (71, .goto 11, 82, 0, 0, 0) := by decide +kernel
theorem xa_M_leads_74 : xm_at xP 82 74 = some (74, .aload_n 0, 0, 0, 0, 0) := by decide +kernel
theorem xa_M_leads_75 : xm_at xP 82 75 = some (75, .getfield 13, 3, 3, 0, 0) := by decide +kernel
theorem xa_M_leads_78 : xm_at xP 82 78 = some (78, .iconst 2, 0, 0, 0, 0) := by decide +kernel
theorem xa_M_leads_79 : xm_at xP 82 79 = some (79, .iload_n 2, 0, 0, 0, 0) := by decide +kernel
theorem xa_M_leads_80 : xm_at xP 82 80 = some (80, .imul, 0, 0, 0, 0) := by decide +kernel
theorem xa_M_leads_81 : xm_at xP 82 81 = some (81, .iaload, 0, 0, 0, 0) := by decide +kernel
theorem xa_M_leads_82 : xm_at xP 82 82 = some (82, .istore 5, 0, 0, 0, 0) := by decide +kernel
theorem xa_M_leads_84 : xm_at xP 82 84 = some (84, .iconst 0, 0, 0, 0, 0) := by decide +kernel
theorem xa_M_leads_85 : xm_at xP 82 85 = some (85, .istore 6, 0, 0, 0, 0) := by decide +kernel
theorem xa_M_leads_87 : xm_at xP 82 87 = some (87, .iload 6, 0, 0, 0, 0) := by decide +kernel
theorem xa_M_leads_89 : xm_at xP 82 89 = some (89, .iload_n 3, 0, 0, 0, 0) := by decide +kernel
theorem xa_M_leads_90 : xm_at xP 82 90 = some (90, .if_icmp .gt 23, 113, 0, 0, 0) := by decide +kernel
theorem xa_M_leads_93 : xm_at xP 82 93 = some (93, .aload_n 0, 0, 0, 0, 0) := by decide +kernel
theorem xa_M_leads_94 : xm_at xP 82 94 = some (94, .getfield 60, 3, 20, 0, 0) := by decide +kernel
theorem xa_M_leads_97 : xm_at xP 82 97 = some (97, .iload 6, 0, 0, 0, 0) := by decide +kernel
theorem xa_M_leads_99 : xm_at xP 82 99 = some (99, .iaload, 0, 0, 0, 0) := by decide +kernel
theorem xa_M_leads_100 : xm_at xP 82 100 = some (100, .iload 5, 0, 0, 0, 0) := by decide +kernel
theorem xa_M_leads_102 : xm_at xP 82 102 = some (102, .if_icmp .ne 5, 107, 0, 0, 0) := by decide +kernel
theorem xa_M_leads_105 : xm_at xP 82 105 = some (105, .iconst (-1), 0, 0, 0, 0) := by decide +kernel
theorem xa_M_leads_106 : xm_at xP 82 106 = some (106, .ireturn, 0, 0, 0, 0) := by decide +kernel
theorem xa_M_leads_107 : xm_at xP 82 107 = some (107, .iinc 6 1, 0, 0, 0, 0) := by decide +kernel
theorem xa_M_leads_110 : xm_at xP 82 110 = some (110, .goto (-23), 87, 0, 0, 0) := by decide +kernel
theorem xa_M_leads_113 : xm_at xP 82 113 = some (113, .iload 5, 0, 0, 0, 0) := by decide +kernel
theorem xa_M_leads_115 : xm_at xP 82 115 = some (115, .ireturn, 0, 0, 0, 0) := by decide +kernel
theorem xa_M_unused_0 : xm_at xP 74 0 = some (0, .iconst 0, 0, 0, 0, 0) := by decide +kernel
theorem xa_M_unused_1 : xm_at xP 74 1 = some (1, .istore_n 1, 0, 0, 0, 0) := by decide +kernel
theorem xa_M_unused_2 : xm_at xP 74 2 = some (2, .iload_n 1, 0, 0, 0, 0) := by decide +kernel
theorem xa_M_unused_3 : xm_at xP 74 3 = some (3, .bipush 12, 0, 0, 0, 0) := by decide +kernel
theorem xa_M_unused_5 : xm_at xP 74 5 = some (5, .if_icmp .ge 20, 25, 0, 0, 0) := by decide +kernel
theorem xa_M_unused_8 : xm_at xP 74 8 = some (8, .aload_n 0, 0, 0, 0, 0) := by decide +kernel
theorem xa_M_unused_9 : xm_at xP 74 9 = some (9, .getfield 27, 3, 8, 0, 0) := by decide +kernel
theorem xa_M_unused_12 : xm_at xP 74 12 = some (12, .iload_n 1, 0, 0, 0, 0) := by decide +kernel
theorem xa_M_unused_13 : xm_at xP 74 13 = some (13, .baload, 0, 0, 0, 0) := by decide +kernel
theorem xa_M_unused_14 : xm_at xP 74 14 = some (14, .ifCond .ne 5, 19, 0, 0, 0) := by decide +kernel
theorem xa_M_unused_17 : xm_at xP 74 17 = some (17, .iload_n 1, 0, 0, 0, 0) := by decide +kernel
theorem xa_M_unused_18 : xm_at xP 74 18 = some (18, .ireturn, 0, 0, 0, 0) := by decide +kernel
theorem xa_M_unused_19 : xm_at xP 74 19 = some (19, .iinc 1 1, 0, 0, 0, 0) := by decide +kernel
theorem xa_M_unused_22 : xm_at xP 74 22 = some (22, .goto (-20), 2, 0, 0, 0) := by decide +kernel
theorem xa_M_unused_25 : xm_at xP 74 25 = some (25, .bipush 12, 0, 0, 0, 0) := by decide +kernel
theorem xa_M_unused_27 : xm_at xP 74 27 = some (27, .ireturn, 0, 0, 0, 0) := by decide +kernel
theorem xa_M_whole_0 : xm_at xP 92 0 = some (0, .iload_n 1, 0, 0, 0, 0) := by decide +kernel
theorem xa_M_whole_1 : xm_at xP 92 1 = some (1, .ifCond .eq 7, 8, 0, 0, 0) := by decide +kernel
theorem xa_M_whole_4 : xm_at xP 92 4 = some (4, .iconst 1, 0, 0, 0, 0) := by decide +kernel
theorem xa_M_whole_5 : xm_at xP 92 5 = some (5, .goto 4, 9, 0, 0, 0) := by decide +kernel
theorem xa_M_whole_8 : xm_at xP 92 8 = some (8, .iconst 0, 0, 0, 0, 0) := by decide +kernel
theorem xa_M_whole_9 : xm_at xP 92 9 = some (9, .istore_n 2, 0, 0, 0, 0) := by decide +kernel
theorem xa_M_whole_10 : xm_at xP 92 10 = some (10, .iconst 0, 0, 0, 0, 0) := by decide +kernel
theorem xa_M_whole_11 : xm_at xP 92 11 = some (11, .istore_n 3, 0, 0, 0, 0) := by decide +kernel
theorem xa_M_whole_12 : xm_at xP 92 12 = some (12, .iload_n 3, 0, 0, 0, 0) := by decide +kernel
theorem xa_M_whole_13 : xm_at xP 92 13 = some (13, .aload_n 0, 0, 0, 0, 0) := by decide +kernel
theorem xa_M_whole_14 : xm_at xP 92 14 = some (14, .getfield 69, 3, 2, 0, 0) := by decide +kernel
theorem xa_M_whole_17 : xm_at xP 92 17 = some (17, .if_icmp .ge 37, 54, 0, 0, 0) := by decide +kernel
theorem xa_M_whole_20 : xm_at xP 92 20 = some (20, .iload_n 2, 0, 0, 0, 0) := by decide +kernel
theorem xa_M_whole_21 : xm_at xP 92 21 = some (21, .ifCond .eq 25, 46, 0, 0, 0) := by decide +kernel
theorem xa_M_whole_24 : xm_at xP 92 24 = some (24, .iload_n 1, 0, 0, 0, 0) := by decide +kernel
theorem xa_M_whole_25 : xm_at xP 92 25 = some (25, .iload_n 3, 0, 0, 0, 0) := by decide +kernel
theorem xa_M_whole_26 : xm_at xP 92 26 = some (26, .invokestatic 72, 78, 2, 0, 0) := by decide +kernel
theorem xa_M_whole_29 : xm_at xP 92 29 = some (29, .iconst 1, 0, 0, 0, 0) := by decide +kernel
theorem xa_M_whole_30 : xm_at xP 92 30 = some (30, .if_icmp .ne 12, 42, 0, 0, 0) := by decide +kernel
theorem xa_M_whole_33 : xm_at xP 92 33 = some (33, .aload_n 0, 0, 0, 0, 0) := by decide +kernel
theorem xa_M_whole_34 : xm_at xP 92 34 = some (34, .getfield 20, 3, 5, 0, 0) := by decide +kernel
theorem xa_M_whole_37 : xm_at xP 92 37 = some (37, .iload_n 3, 0, 0, 0, 0) := by decide +kernel
theorem xa_M_whole_38 : xm_at xP 92 38 = some (38, .baload, 0, 0, 0, 0) := by decide +kernel
theorem xa_M_whole_39 : xm_at xP 92 39 = some (39, .ifCond .ne 7, 46, 0, 0, 0) := by decide +kernel
theorem xa_M_whole_42 : xm_at xP 92 42 = some (42, .iconst 1, 0, 0, 0, 0) := by decide +kernel
theorem xa_M_whole_43 : xm_at xP 92 43 = some (43, .goto 4, 47, 0, 0, 0) := by decide +kernel
theorem xa_M_whole_46 : xm_at xP 92 46 = some (46, .iconst 0, 0, 0, 0, 0) := by decide +kernel
theorem xa_M_whole_47 : xm_at xP 92 47 = some (47, .istore_n 2, 0, 0, 0, 0) := by decide +kernel
theorem xa_M_whole_48 : xm_at xP 92 48 = some (48, .iinc 3 1, 0, 0, 0, 0) := by decide +kernel
theorem xa_M_whole_51 : xm_at xP 92 51 = some (51, .goto (-39), 12, 0, 0, 0) := by decide +kernel
theorem xa_M_whole_54 : xm_at xP 92 54 = some (54, .iload_n 2, 0, 0, 0, 0) := by decide +kernel
theorem xa_M_whole_55 : xm_at xP 92 55 = some (55, .ireturn, 0, 0, 0, 1) := by decide +kernel
section XM2
variable {xs : Nat → Int32} {LS d : Nat} {h : List va_E} {ks : Nat} {fl : Bool} {Q : (Option Value ⊕ Nat) → xm_S → Prop}
variable {Mc : Int32} {Mn : Nat} {Mm : Nat} {Mh : Int32} {Mp : Nat} {Mfw : Int32} {Mfs : Int32} {Me : Nat → Nat} {Ml : Nat → Nat} {Mbr : Nat → Bool} {Mlk : Nat → Bool} {Mt : Nat → Bool} {Mg : Nat → Bool} {Ma : Nat → Nat} {Mb : Nat → Nat} {Mw : Nat → Nat} {Mwk : Nat → Int32} {Msp : Nat → Int32} {Mon : Nat → Int32} {Mct : Nat → Int32} {MS : Nat → Int32} {MZ : Nat → Int32} {MA : Nat → Nat} {MN : Nat → Nat}
theorem xz1 {b : Bool} (hc : ¬ xz b = 0) : b = true := by
  cases b with
  | true => rfl
  | false => exact absurd rfl hc
theorem c_M_thrown (hM : xMd h Mc Mn Mm Mh Mp Mfw Mfs Me Ml Mbr Mlk Mt Mg Ma Mb Mw Mwk Msp Mon Mct MS MZ MA MN) (k : Q (.inl (some (.int Mc))) (h, ks, fl)) : xG xs LS d 69 (0, xm_entry xP 69 [.ref 22], []) (h, ks, fl) Q := by
  obtain ⟨g22, g23, g24, g25, g26, g27, g28, g29, g30, g31, g32, g33, g34, g35, g36, g37, g38, g39⟩ := id hM
  show xG xs LS d 69 (0, [some (.ref 22)], []) (h, ks, fl) Q
  refine xg_aload_n xa_M_thrown_0 rfl ?_
  refine xg_getfield xa_M_thrown_1 (by assumption) rfl ?_
  refine xg_ireturn xa_M_thrown_4  ?_
  exact k
/-- not under n -/
def xnS (n : Nat) (x : Int32) : Bool := decide (x < 0) || decide (nI n ≤ x)
theorem c_M_noSite {x : Int32} (hM : xMd h Mc Mn Mm Mh Mp Mfw Mfs Me Ml Mbr Mlk Mt Mg Ma Mb Mw Mwk Msp Mon Mct MS MZ MA MN) (k : Q (.inl (some (.int (xz (xnS Mn x))))) (h, ks, fl)) : xG xs LS d 72 (0, xm_entry xP 72 [.ref 22, .int x], []) (h, ks, fl) Q := by
  obtain ⟨g22, g23, g24, g25, g26, g27, g28, g29, g30, g31, g32, g33, g34, g35, g36, g37, g38, g39⟩ := id hM
  show xG xs LS d 72 (0, [some (.ref 22), some (.int x)], []) (h, ks, fl) Q
  unfold xnS at k
  have le : ¬ x < nI Mn → nI Mn ≤ x := fun q => Int32.not_lt.mp q
  have nl : x < nI Mn → ¬ nI Mn ≤ x := fun q => Int32.not_le.mpr q
  refine xg_iload_n xa_M_noSite_0 rfl ?_
  refine xg_if_lt xa_M_noSite_1 (fun c1 => ?_) (fun c1 => ?_)
  · rw [decide_eq_true c1] at k
    refine xg_iconst (v := 1) xa_M_noSite_12 (by decide) ?_
    refine xg_goto xa_M_noSite_13 ?_
    refine xg_zreturn xa_M_noSite_17 (Or.inr rfl) ?_
    exact k
  · rw [decide_eq_false c1] at k
    refine xg_iload_n xa_M_noSite_4 rfl ?_
    refine xg_aload_n xa_M_noSite_5 rfl ?_
    refine xg_getfield xa_M_noSite_6 (by assumption) rfl ?_
    refine xg_icmp_lt xa_M_noSite_9 (fun c9 => ?_) (fun c9 => ?_)
    · rw [decide_eq_false (nl c9)] at k
      refine xg_iconst (v := 0) xa_M_noSite_16 (by decide) ?_
      refine xg_zreturn xa_M_noSite_17 (Or.inl rfl) ?_
      exact k
    · rw [decide_eq_true (le c9)] at k
      refine xg_iconst (v := 1) xa_M_noSite_12 (by decide) ?_
      refine xg_goto xa_M_noSite_13 ?_
      refine xg_zreturn xa_M_noSite_17 (Or.inr rfl) ?_
      exact k
theorem c_M_noFibre {x : Int32} (hM : xMd h Mc Mn Mm Mh Mp Mfw Mfs Me Ml Mbr Mlk Mt Mg Ma Mb Mw Mwk Msp Mon Mct MS MZ MA MN) (k : Q (.inl (some (.int (xz (xnS Mm x))))) (h, ks, fl)) : xG xs LS d 89 (0, xm_entry xP 89 [.ref 22, .int x], []) (h, ks, fl) Q := by
  obtain ⟨g22, g23, g24, g25, g26, g27, g28, g29, g30, g31, g32, g33, g34, g35, g36, g37, g38, g39⟩ := id hM
  show xG xs LS d 89 (0, [some (.ref 22), some (.int x)], []) (h, ks, fl) Q
  unfold xnS at k
  have le : ¬ x < nI Mm → nI Mm ≤ x := fun q => Int32.not_lt.mp q
  have nl : x < nI Mm → ¬ nI Mm ≤ x := fun q => Int32.not_le.mpr q
  refine xg_iload_n xa_M_noFibre_0 rfl ?_
  refine xg_if_lt xa_M_noFibre_1 (fun c1 => ?_) (fun c1 => ?_)
  · rw [decide_eq_true c1] at k
    refine xg_iconst (v := 1) xa_M_noFibre_12 (by decide) ?_
    refine xg_goto xa_M_noFibre_13 ?_
    refine xg_zreturn xa_M_noFibre_17 (Or.inr rfl) ?_
    exact k
  · rw [decide_eq_false c1] at k
    refine xg_iload_n xa_M_noFibre_4 rfl ?_
    refine xg_aload_n xa_M_noFibre_5 rfl ?_
    refine xg_getfield xa_M_noFibre_6 (by assumption) rfl ?_
    refine xg_icmp_lt xa_M_noFibre_9 (fun c9 => ?_) (fun c9 => ?_)
    · rw [decide_eq_false (nl c9)] at k
      refine xg_iconst (v := 0) xa_M_noFibre_16 (by decide) ?_
      refine xg_zreturn xa_M_noFibre_17 (Or.inl rfl) ?_
      exact k
    · rw [decide_eq_true (le c9)] at k
      refine xg_iconst (v := 1) xa_M_noFibre_12 (by decide) ?_
      refine xg_goto xa_M_noFibre_13 ?_
      refine xg_zreturn xa_M_noFibre_17 (Or.inr rfl) ?_
      exact k
/-- no connection of this number -/
def xnC (t : Nat → Bool) (x : Int32) : Bool := decide (x < 0) || decide (11 < x) || !t x.toNatClampNeg
theorem xi_12 {x : Int32} (h1 : ¬ x < 0) (h2 : ¬ 11 < x) : ∃ j, j < 12 ∧ x = nI j := by
  obtain ⟨j, hj, e⟩ := nI_of2 (M := 11) (n := 11) (by decide) h1 (Int32.not_lt.mp h2)
  exact ⟨j, by omega, e⟩
theorem c_M_noConnection {x : Int32} (hM : xMd h Mc Mn Mm Mh Mp Mfw Mfs Me Ml Mbr Mlk Mt Mg Ma Mb Mw Mwk Msp Mon Mct MS MZ MA MN) (k : Q (.inl (some (.int (xz (xnC Mt x))))) (h, ks, fl)) : xG xs LS d 87 (0, xm_entry xP 87 [.ref 22, .int x], []) (h, ks, fl) Q := by
  obtain ⟨g22, g23, g24, g25, g26, g27, g28, g29, g30, g31, g32, g33, g34, g35, g36, g37, g38, g39⟩ := id hM
  show xG xs LS d 87 (0, [some (.ref 22), some (.int x)], []) (h, ks, fl) Q
  unfold xnC at k
  refine xg_iload_n xa_M_noConnection_0 rfl ?_
  refine xg_if_lt xa_M_noConnection_1 (fun c1 => ?_) (fun c1 => ?_)
  · rw [decide_eq_true c1] at k
    refine xg_iconst (v := 1) xa_M_noConnection_19 (by decide) ?_
    refine xg_goto xa_M_noConnection_20 ?_
    refine xg_zreturn xa_M_noConnection_24 (Or.inr rfl) ?_
    exact k
  · rw [decide_eq_false c1] at k
    refine xg_iload_n xa_M_noConnection_4 rfl ?_
    refine xg_bipush (v := 11) xa_M_noConnection_5 (by decide) ?_
    refine xg_icmp_gt xa_M_noConnection_7 (fun c7 => ?_) (fun c7 => ?_)
    · rw [decide_eq_true c7] at k
      refine xg_iconst (v := 1) xa_M_noConnection_19 (by decide) ?_
      refine xg_goto xa_M_noConnection_20 ?_
      refine xg_zreturn xa_M_noConnection_24 (Or.inr rfl) ?_
      exact k
    · rw [decide_eq_false c7] at k
      obtain ⟨j, hj, rfl⟩ := xi_12 c1 c7
      rw [nI_clamp (by omega)] at k
      refine xg_aload_n xa_M_noConnection_10 rfl ?_
      refine xg_getfield xa_M_noConnection_11 (by assumption) rfl ?_
      refine xg_iload_n xa_M_noConnection_14 rfl ?_
      refine xg_zald_n xa_M_noConnection_15 (by assumption) rfl (by assumption) (by decide) ?_
      refine xg_if_ne xa_M_noConnection_16 (fun c16 => ?_) (fun c16 => ?_)
      · rw [xz1 c16] at k
        refine xg_iconst (v := 0) xa_M_noConnection_23 (by decide) ?_
        refine xg_zreturn xa_M_noConnection_24 (Or.inl rfl) ?_
        exact k
      · rw [(xz0 _).mp c16] at k
        refine xg_iconst (v := 1) xa_M_noConnection_19 (by decide) ?_
        refine xg_goto xa_M_noConnection_20 ?_
        refine xg_zreturn xa_M_noConnection_24 (Or.inr rfl) ?_
        exact k
theorem c_M_bit {s : Int32} {f : Nat} (hf : f < 32) (k : Q (.inl (some (.int (xz (xb s f))))) (h, ks, fl)) : xG xs LS d 78 (0, xm_entry xP 78 [.int s, .int (nI f)], []) (h, ks, fl) Q := by
  show xG xs LS d 78 (0, [some (.int s), some (.int (nI f))], []) (h, ks, fl) Q
  refine xg_iload_n xa_M_bit_0 rfl ?_
  refine xg_iload_n xa_M_bit_1 rfl ?_
  refine xg_ishr xa_M_bit_2 rfl ?_
  refine xg_iconst (v := 1) xa_M_bit_3 (by decide) ?_
  refine xg_iand xa_M_bit_4 (xb_shr1 s hf) ?_
  refine xg_ireturn xa_M_bit_5  ?_
  exact k
theorem xlen_s (ln : Nat → Int32) (s : Int32) (i : Nat) : xlen ln s i + xz (xb s i) * ln i = xlen ln s (i + 1) := by
  show _ = if xb s i = true then xlen ln s i + ln i else xlen ln s i
  cases xb s i
  · show xlen ln s i + 0 * ln i = _
    rw [Int32.zero_mul, Int32.add_zero]
    rfl
  · show xlen ln s i + 1 * ln i = _
    rw [Int32.one_mul]
    rfl
theorem c_M_lengthOf {s : Int32} (hM : xMd h Mc Mn Mm Mh Mp Mfw Mfs Me Ml Mbr Mlk Mt Mg Ma Mb Mw Mwk Msp Mon Mct MS MZ MA MN) (hm : Mm ≤ 14) (k : Q (.inl (some (.int (xlen (fun j => nI (Ml j)) s Mm)))) (h, ks, fl)) : xG xs LS (d + 1) 81 (0, xm_entry xP 81 [.ref 22, .int s], []) (h, ks, fl) Q := by
  obtain ⟨g22, g23, g24, g25, g26, g27, g28, g29, g30, g31, g32, g33, g34, g35, g36, g37, g38, g39⟩ := id hM
  show xG xs LS (d + 1) 81 (0, [some (.ref 22), some (.int s), none, none], []) (h, ks, fl) Q
  have loop : ∀ n i, i + n = Mm → xG xs LS (d + 1) 81 (4, [some (.ref 22), some (.int s), some (.int (xlen (fun j => nI (Ml j)) s i)), some (.int (nI i))], []) (h, ks, fl) Q := by
    intro n
    induction n with
    | zero =>
      intro i hi
      have e : i = Mm := by omega
      subst e
      refine xg_iload_n xa_M_lengthOf_4 rfl ?_
      refine xg_aload_n xa_M_lengthOf_5 rfl ?_
      refine xg_getfield xa_M_lengthOf_6 (by assumption) rfl ?_
      refine xg_icmp_ge xa_M_lengthOf_9 (fun c9 => ?_) (fun c9 => absurd (nI_le (by omega) (by omega)) c9)
      refine xg_iload_n xa_M_lengthOf_33 rfl ?_
      refine xg_ireturn xa_M_lengthOf_34  ?_
      exact k
    | succ n ih =>
      intro i hi
      have hi14 : i < 14 := by omega
      refine xg_iload_n xa_M_lengthOf_4 rfl ?_
      refine xg_aload_n xa_M_lengthOf_5 rfl ?_
      refine xg_getfield xa_M_lengthOf_6 (by assumption) rfl ?_
      refine xg_icmp_ge xa_M_lengthOf_9 (fun c9 => absurd c9 (nI_ge (by omega) (by omega))) (fun c9 => ?_)
      refine xg_iload_n xa_M_lengthOf_12 rfl ?_
      refine xg_iload_n xa_M_lengthOf_13 rfl ?_
      refine xg_iload_n xa_M_lengthOf_14 rfl ?_
      refine xg_callS1 xa_M_lengthOf_15 ⟨Nat.le_of_ble_eq_true rfl, Nat.le_of_ble_eq_true rfl, rfl⟩ rfl rfl ?_
      refine c_M_bit (by omega) ?_
      refine xK1_c ?_
      refine xg_aload_n xa_M_lengthOf_18 rfl ?_
      refine xg_getfield xa_M_lengthOf_19 (by assumption) rfl ?_
      refine xg_iload_n xa_M_lengthOf_22 rfl ?_
      refine xg_iald_n xa_M_lengthOf_23 (by assumption) rfl (by assumption) (by decide) ?_
      refine xg_imul xa_M_lengthOf_24 rfl ?_
      refine xg_iadd xa_M_lengthOf_25 (xlen_s _ _ _) ?_
      refine xg_istore_n (L' := [_, _, _, _]) xa_M_lengthOf_26 (Nat.le_of_ble_eq_true rfl) rfl ?_
      refine xg_iinc (L' := [_, _, _, _]) xa_M_lengthOf_27 rfl (xi_inc _) rfl ?_
      refine xg_goto xa_M_lengthOf_30 ?_
      exact ih (i + 1) (by omega)
  refine xg_iconst (v := 0) xa_M_lengthOf_0 (by decide) ?_
  refine xg_istore_n (L' := [_, _, _, _]) xa_M_lengthOf_1 (Nat.le_of_ble_eq_true rfl) rfl ?_
  refine xg_iconst (v := 0) xa_M_lengthOf_2 (by decide) ?_
  refine xg_istore_n (L' := [_, _, _, _]) xa_M_lengthOf_3 (Nat.le_of_ble_eq_true rfl) rfl ?_
  exact loop Mm 0 (by omega)
/-- the list of x comes before that of y: from fibre f on -/
def xbf0 (x y : Int32) : Nat → Nat → Bool
  | 0, _ => false
  | n + 1, f => if xb x f = xb y f then xbf0 x y n (f + 1) else (xb x f == decide (0 < (if xb x f = true then y else x) >>> (nI f &&& 31)))
def xbef (x y : Int32) : Bool := xbf0 x y 14 0
theorem xz_inj {a b : Bool} : xz a = xz b ↔ a = b := by cases a <;> cases b <;> decide
theorem c_M_before {x y : Int32} (k : Q (.inl (some (.int (xz (xbef x y))))) (h, ks, fl)) : xG xs LS (d + 1) 83 (0, xm_entry xP 83 [.int x, .int y], []) (h, ks, fl) Q := by
  show xG xs LS (d + 1) 83 (0, [some (.int x), some (.int y), none, none, none, none], []) (h, ks, fl) Q
  have loop : ∀ n i, i + n = 14 → Q (.inl (some (.int (xz (xbf0 x y n i))))) (h, ks, fl) → xG xs LS (d + 1) 83 (2, [some (.int x), some (.int y), some (.int (nI i)), none, none, none], []) (h, ks, fl) Q := by
    intro n
    induction n with
    | zero =>
      intro i hi k
      have e : i = 14 := by omega
      subst e
      refine xg_iload_n xa_M_before_2 rfl ?_
      refine xg_bipush (v := 14) xa_M_before_3 (by decide) ?_
      refine xg_icmp_ge xa_M_before_5 (fun c5 => ?_) (fun c5 => absurd (by decide) c5)
      refine xg_iconst (v := 0) xa_M_before_79 (by decide) ?_
      refine xg_zreturn xa_M_before_80 (Or.inl rfl) ?_
      exact k
    | succ n ih =>
      intro i hi k
      unfold xbf0 at k
      have fin : ∀ (fst : Bool) (o : Int32), xb x i = fst → ¬ xb x i = xb y i → (if fst = true then y else x) = o → xG xs LS (d + 1) 83 (47, [some (.int x), some (.int y), some (.int (nI i)), some (.int (xz fst)), some (.int o), none], []) (h, ks, fl) Q := by
        intro fst o hf hne ho
        rw [if_neg hne, hf, ho] at k
        refine xg_iload xa_M_before_47 rfl ?_
        refine xg_iload_n xa_M_before_49 rfl ?_
        refine xg_ishr xa_M_before_50 rfl ?_
        refine xg_if_le xa_M_before_51 (fun c => ?_) (fun c => ?_)
        · rw [decide_eq_false (Int32.not_lt.mpr c)] at k
          refine xg_iconst (v := 0) xa_M_before_58 (by decide) ?_
          refine xg_istore (L' := [_, _, _, _, _, _]) xa_M_before_59 (Nat.le_of_ble_eq_true rfl) rfl ?_
          refine xg_iload_n xa_M_before_61 rfl ?_
          refine xg_iload xa_M_before_62 rfl ?_
          refine xg_icmp_ne xa_M_before_64 (fun c2 => ?_) (fun c2 => ?_)
          · have e : fst = true := by cases fst with
              | true => rfl
              | false => exact absurd rfl c2
            rw [e] at k
            refine xg_iconst (v := 0) xa_M_before_71 (by decide) ?_
            refine xg_zreturn xa_M_before_72 (Or.inl rfl) ?_
            exact k
          · have e : fst = false := xz_inj.mp c2
            rw [e] at k
            refine xg_iconst (v := 1) xa_M_before_67 (by decide) ?_
            refine xg_goto xa_M_before_68 ?_
            refine xg_zreturn xa_M_before_72 (Or.inr rfl) ?_
            exact k
        · rw [decide_eq_true (Int32.not_le.mp c)] at k
          refine xg_iconst (v := 1) xa_M_before_54 (by decide) ?_
          refine xg_goto xa_M_before_55 ?_
          refine xg_istore (L' := [_, _, _, _, _, _]) xa_M_before_59 (Nat.le_of_ble_eq_true rfl) rfl ?_
          refine xg_iload_n xa_M_before_61 rfl ?_
          refine xg_iload xa_M_before_62 rfl ?_
          refine xg_icmp_ne xa_M_before_64 (fun c2 => ?_) (fun c2 => ?_)
          · have e : fst = false := by cases fst with
              | false => rfl
              | true => exact absurd rfl c2
            rw [e] at k
            refine xg_iconst (v := 0) xa_M_before_71 (by decide) ?_
            refine xg_zreturn xa_M_before_72 (Or.inl rfl) ?_
            exact k
          · have e : fst = true := xz_inj.mp c2
            rw [e] at k
            refine xg_iconst (v := 1) xa_M_before_67 (by decide) ?_
            refine xg_goto xa_M_before_68 ?_
            refine xg_zreturn xa_M_before_72 (Or.inr rfl) ?_
            exact k
      refine xg_iload_n xa_M_before_2 rfl ?_
      refine xg_bipush (v := 14) xa_M_before_3 (by decide) ?_
      refine xg_icmp_ge xa_M_before_5 (fun c => absurd c (show ¬ nI 14 ≤ nI i from nI_ge (by omega) (by omega))) (fun _ => ?_)
      refine xg_iload_n xa_M_before_8 rfl ?_
      refine xg_iload_n xa_M_before_9 rfl ?_
      refine xg_callS1 xa_M_before_10 ⟨Nat.le_of_ble_eq_true rfl, Nat.le_of_ble_eq_true rfl, rfl⟩ rfl rfl ?_
      refine c_M_bit (by omega) ?_
      refine xK1_c ?_
      refine xg_iload_n xa_M_before_13 rfl ?_
      refine xg_iload_n xa_M_before_14 rfl ?_
      refine xg_callS1 xa_M_before_15 ⟨Nat.le_of_ble_eq_true rfl, Nat.le_of_ble_eq_true rfl, rfl⟩ rfl rfl ?_
      refine c_M_bit (by omega) ?_
      refine xK1_c ?_
      refine xg_icmp_eq xa_M_before_18 (fun c => ?_) (fun c => ?_)
      · rw [if_pos (xz_inj.mp c)] at k
        refine xg_iinc (L' := [_, _, _, _, _, _]) xa_M_before_73 rfl (xi_inc _) rfl ?_
        refine xg_goto xa_M_before_76 ?_
        exact ih (i + 1) (by omega) k
      · have hne : ¬ xb x i = xb y i := fun q => c (xz_inj.mpr q)
        refine xg_iload_n xa_M_before_21 rfl ?_
        refine xg_iload_n xa_M_before_22 rfl ?_
        refine xg_callS1 xa_M_before_23 ⟨Nat.le_of_ble_eq_true rfl, Nat.le_of_ble_eq_true rfl, rfl⟩ rfl rfl ?_
        refine c_M_bit (by omega) ?_
        refine xK1_c ?_
        refine xg_iconst (v := 1) xa_M_before_26 (by decide) ?_
        refine xg_icmp_ne xa_M_before_27 (fun c2 => ?_) (fun c2 => ?_)
        · have e : xb x i = false := by cases hb : xb x i with
            | false => rfl
            | true => rw [hb] at c2; exact absurd rfl c2
          refine xg_iconst (v := 0) xa_M_before_34 (by decide) ?_
          refine xg_istore_n (L' := [_, _, _, _, _, _]) xa_M_before_35 (Nat.le_of_ble_eq_true rfl) rfl ?_
          refine xg_iload_n xa_M_before_36 rfl ?_
          refine xg_if_eq xa_M_before_37 (fun _ => ?_) (fun c => absurd rfl c)
          refine xg_iload_n xa_M_before_44 rfl ?_
          refine xg_istore (L' := [_, _, _, _, _, _]) xa_M_before_45 (Nat.le_of_ble_eq_true rfl) rfl ?_
          exact fin false x e hne rfl
        · have e : xb x i = true := xz_inj.mp c2
          refine xg_iconst (v := 1) xa_M_before_30 (by decide) ?_
          refine xg_goto xa_M_before_31 ?_
          refine xg_istore_n (L' := [_, _, _, _, _, _]) xa_M_before_35 (Nat.le_of_ble_eq_true rfl) rfl ?_
          refine xg_iload_n xa_M_before_36 rfl ?_
          refine xg_if_eq xa_M_before_37 (fun c => absurd c (by decide)) (fun _ => ?_)
          refine xg_iload_n xa_M_before_40 rfl ?_
          refine xg_goto xa_M_before_41 ?_
          refine xg_istore (L' := [_, _, _, _, _, _]) xa_M_before_45 (Nat.le_of_ble_eq_true rfl) rfl ?_
          exact fin true y e hne rfl
  refine xg_iconst (v := 0) xa_M_before_0 (by decide) ?_
  refine xg_istore_n (L' := [_, _, _, _, _, _]) xa_M_before_1 (Nat.le_of_ble_eq_true rfl) rfl ?_
  exact loop 14 0 (by omega) k
/-- connection c uses fibre f on wavelength w -/
def xus (Mt : Nat → Bool) (Mw : Nat → Nat) (Mwk Msp : Nat → Int32) (f w : Nat) (c : Nat) : Bool := Mt c && decide (nI (Mw c) = nI w) && xb (Mwk c ||| Msp c) f
def xusr (Mt : Nat → Bool) (Mw : Nat → Nat) (Mwk Msp : Nat → Int32) (f w : Nat) : Option Nat := xfst (xus Mt Mw Mwk Msp f w) 12 0
theorem c_M_userOf {f w : Nat} (hM : xMd h Mc Mn Mm Mh Mp Mfw Mfs Me Ml Mbr Mlk Mt Mg Ma Mb Mw Mwk Msp Mon Mct MS MZ MA MN) (hf : f < 14) (k : Q (.inl (some (.int (xo (xusr Mt Mw Mwk Msp f w))))) (h, ks, fl)) : xG xs LS (d + 1) 77 (0, xm_entry xP 77 [.ref 22, .int (nI f), .int (nI w)], []) (h, ks, fl) Q := by
  obtain ⟨g22, g23, g24, g25, g26, g27, g28, g29, g30, g31, g32, g33, g34, g35, g36, g37, g38, g39⟩ := id hM
  show xG xs LS (d + 1) 77 (0, [some (.ref 22), some (.int (nI f)), some (.int (nI w)), none], []) (h, ks, fl) Q
  have loop : ∀ n i, i + n = 12 → Q (.inl (some (.int (xo (xfst (xus Mt Mw Mwk Msp f w) n i))))) (h, ks, fl) → xG xs LS (d + 1) 77 (2, [some (.ref 22), some (.int (nI f)), some (.int (nI w)), some (.int (nI i))], []) (h, ks, fl) Q := by
    intro n
    induction n with
    | zero =>
      intro i hi k
      have e : i = 12 := by omega
      subst e
      refine xg_iload_n xa_M_userOf_2 rfl ?_
      refine xg_bipush (v := 12) xa_M_userOf_3 (by decide) ?_
      refine xg_icmp_ge xa_M_userOf_5 (fun c5 => ?_) (fun c5 => absurd (by decide) c5)
      refine xg_iconst (v := (-1)) xa_M_userOf_56 (by decide) ?_
      refine xg_ireturn xa_M_userOf_57  ?_
      exact k
    | succ n ih =>
      intro i hi k
      have hi12 : i < 12 := by omega
      unfold xfst at k
      have next : xus Mt Mw Mwk Msp f w i = false → xG xs LS (d + 1) 77 (50, [some (.ref 22), some (.int (nI f)), some (.int (nI w)), some (.int (nI i))], []) (h, ks, fl) Q := by
        intro e
        rw [if_neg (by rw [e]; decide)] at k
        refine xg_iinc (L' := [_, _, _, _]) xa_M_userOf_50 rfl (xi_inc _) rfl ?_
        refine xg_goto xa_M_userOf_53 ?_
        exact ih (i + 1) (by omega) k
      refine xg_iload_n xa_M_userOf_2 rfl ?_
      refine xg_bipush (v := 12) xa_M_userOf_3 (by decide) ?_
      refine xg_icmp_ge xa_M_userOf_5 (fun c => absurd c (show ¬ nI 12 ≤ nI i from nI_ge (by omega) (by omega))) (fun _ => ?_)
      refine xg_aload_n xa_M_userOf_8 rfl ?_
      refine xg_getfield xa_M_userOf_9 (by assumption) rfl ?_
      refine xg_iload_n xa_M_userOf_12 rfl ?_
      refine xg_zald_n xa_M_userOf_13 (by assumption) rfl (by assumption) (by decide) ?_
      refine xg_if_eq xa_M_userOf_14 (fun c => next (by unfold xus; rw [(xz0 _).mp c]; rfl)) (fun c14 => ?_)
      refine xg_aload_n xa_M_userOf_17 rfl ?_
      refine xg_getfield xa_M_userOf_18 (by assumption) rfl ?_
      refine xg_iload_n xa_M_userOf_21 rfl ?_
      refine xg_iald_n xa_M_userOf_22 (by assumption) rfl (by assumption) (by decide) ?_
      refine xg_iload_n xa_M_userOf_23 rfl ?_
      refine xg_icmp_ne xa_M_userOf_24 (fun c => next (by unfold xus; rw [decide_eq_false c]; simp)) (fun c24 => ?_)
      refine xg_aload_n xa_M_userOf_27 rfl ?_
      refine xg_getfield xa_M_userOf_28 (by assumption) rfl ?_
      refine xg_iload_n xa_M_userOf_31 rfl ?_
      refine xg_iald_n xa_M_userOf_32 (by assumption) rfl (by assumption) (by decide) ?_
      refine xg_aload_n xa_M_userOf_33 rfl ?_
      refine xg_getfield xa_M_userOf_34 (by assumption) rfl ?_
      refine xg_iload_n xa_M_userOf_37 rfl ?_
      refine xg_iald_n xa_M_userOf_38 (by assumption) rfl (by assumption) (by decide) ?_
      refine xg_ior xa_M_userOf_39 rfl ?_
      refine xg_iload_n xa_M_userOf_40 rfl ?_
      refine xg_callS1 xa_M_userOf_41 ⟨Nat.le_of_ble_eq_true rfl, Nat.le_of_ble_eq_true rfl, rfl⟩ rfl rfl ?_
      refine c_M_bit (by omega) ?_
      refine xK1_c ?_
      refine xg_iconst (v := 1) xa_M_userOf_44 (by decide) ?_
      refine xg_icmp_ne xa_M_userOf_45 (fun c => next ?_) (fun c45 => ?_)
      · unfold xus
        cases hb : xb (Mwk i ||| Msp i) f with
        | false => simp
        | true => rw [hb] at c; exact absurd rfl c
      · have e : xus Mt Mw Mwk Msp f w i = true := by
          unfold xus
          rw [xz1 c14, decide_eq_true c24, show xb (Mwk i ||| Msp i) f = true from xz_inj.mp c45]
          rfl
        rw [if_pos e] at k
        refine xg_iload_n xa_M_userOf_48 rfl ?_
        refine xg_ireturn xa_M_userOf_49  ?_
        exact k
  refine xg_iconst (v := 0) xa_M_userOf_0 (by decide) ?_
  refine xg_istore_n (L' := [_, _, _, _]) xa_M_userOf_1 (Nat.le_of_ble_eq_true rfl) rfl ?_
  exact loop 12 0 (by omega) k
/-- the free ones of the first fibres -/
def xfre (Mbr Mlk Mt : Nat → Bool) (Mw : Nat → Nat) (Mwk Msp : Nat → Int32) (w : Nat) : Nat → Int32
  | 0 => 0
  | f + 1 => if Mbr f = false ∧ Mlk f = false ∧ xusr Mt Mw Mwk Msp f w = none then xfre Mbr Mlk Mt Mw Mwk Msp w f ||| xbt f else xfre Mbr Mlk Mt Mw Mwk Msp w f
theorem c_M_free {w : Nat} (hM : xMd h Mc Mn Mm Mh Mp Mfw Mfs Me Ml Mbr Mlk Mt Mg Ma Mb Mw Mwk Msp Mon Mct MS MZ MA MN) (hm : Mm ≤ 14) (k : Q (.inl (some (.int (xfre Mbr Mlk Mt Mw Mwk Msp w Mm)))) (h, ks, fl)) : xG xs LS (d + 2) 76 (0, xm_entry xP 76 [.ref 22, .int (nI w)], []) (h, ks, fl) Q := by
  obtain ⟨g22, g23, g24, g25, g26, g27, g28, g29, g30, g31, g32, g33, g34, g35, g36, g37, g38, g39⟩ := id hM
  show xG xs LS (d + 2) 76 (0, [some (.ref 22), some (.int (nI w)), none, none], []) (h, ks, fl) Q
  have loop : ∀ n i, i + n = Mm → xG xs LS (d + 2) 76 (4, [some (.ref 22), some (.int (nI w)), some (.int (xfre Mbr Mlk Mt Mw Mwk Msp w i)), some (.int (nI i))], []) (h, ks, fl) Q := by
    intro n
    induction n with
    | zero =>
      intro i hi
      have e : i = Mm := by omega
      subst e
      refine xg_iload_n xa_M_free_4 rfl ?_
      refine xg_aload_n xa_M_free_5 rfl ?_
      refine xg_getfield xa_M_free_6 (by assumption) rfl ?_
      refine xg_icmp_ge xa_M_free_9 (fun c9 => ?_) (fun c9 => absurd (nI_le (by omega) (by omega)) c9)
      refine xg_iload_n xa_M_free_55 rfl ?_
      refine xg_ireturn xa_M_free_56  ?_
      exact k
    | succ n ih =>
      intro i hi
      have hi14 : i < 14 := by omega
      have next : ∀ v, v = xfre Mbr Mlk Mt Mw Mwk Msp w (i + 1) → xG xs LS (d + 2) 76 (48, [some (.ref 22), some (.int (nI w)), some (.int (xfre Mbr Mlk Mt Mw Mwk Msp w i)), some (.int (nI i))], [.int v]) (h, ks, fl) Q := by
        intro v e
        subst e
        refine xg_istore_n (L' := [_, _, _, _]) xa_M_free_48 (Nat.le_of_ble_eq_true rfl) rfl ?_
        refine xg_iinc (L' := [_, _, _, _]) xa_M_free_49 rfl (xi_inc _) rfl ?_
        refine xg_goto xa_M_free_52 ?_
        exact ih (i + 1) (by omega)
      have no : ¬ (Mbr i = false ∧ Mlk i = false ∧ xusr Mt Mw Mwk Msp i w = none) → xG xs LS (d + 2) 76 (47, [some (.ref 22), some (.int (nI w)), some (.int (xfre Mbr Mlk Mt Mw Mwk Msp w i)), some (.int (nI i))], []) (h, ks, fl) Q := by
        intro e
        refine xg_iload_n xa_M_free_47 rfl ?_
        refine next _ ?_
        show _ = if _ then _ else _
        rw [if_neg e]
      refine xg_iload_n xa_M_free_4 rfl ?_
      refine xg_aload_n xa_M_free_5 rfl ?_
      refine xg_getfield xa_M_free_6 (by assumption) rfl ?_
      refine xg_icmp_ge xa_M_free_9 (fun c => absurd c (nI_ge (by omega) (by omega))) (fun _ => ?_)
      refine xg_aload_n xa_M_free_12 rfl ?_
      refine xg_getfield xa_M_free_13 (by assumption) rfl ?_
      refine xg_iload_n xa_M_free_16 rfl ?_
      refine xg_zald_n xa_M_free_17 (by assumption) rfl (by assumption) (by decide) ?_
      refine xg_if_ne xa_M_free_18 (fun c => no (fun q => c ((xz0 _).mpr q.1))) (fun c18 => ?_)
      refine xg_aload_n xa_M_free_21 rfl ?_
      refine xg_getfield xa_M_free_22 (by assumption) rfl ?_
      refine xg_iload_n xa_M_free_25 rfl ?_
      refine xg_zald_n xa_M_free_26 (by assumption) rfl (by assumption) (by decide) ?_
      refine xg_if_ne xa_M_free_27 (fun c => no (fun q => c ((xz0 _).mpr q.2.1))) (fun c27 => ?_)
      refine xg_aload_n xa_M_free_30 rfl ?_
      refine xg_iload_n xa_M_free_31 rfl ?_
      refine xg_iload_n xa_M_free_32 rfl ?_
      refine xg_callV1 xa_M_free_33 ⟨Nat.le_of_ble_eq_true rfl, Nat.le_of_ble_eq_true rfl, rfl⟩ rfl rfl (by assumption) ?_
      refine c_M_userOf hM hi14 ?_
      refine xK1_c ?_
      refine xg_if_ge xa_M_free_36 (fun c => no (fun q => ?_)) (fun c36 => ?_)
      · rw [q.2.2] at c
        exact absurd c (by decide)
      · have e : xusr Mt Mw Mwk Msp i w = none := by
          cases hu : xusr Mt Mw Mwk Msp i w with
          | none => rfl
          | some c =>
            rw [hu] at c36
            have hb := (xfst_spec _ _ _ hu).2.1
            exact absurd (nI_pos' (by omega)) c36
        refine xg_iload_n xa_M_free_39 rfl ?_
        refine xg_iconst (v := 1) xa_M_free_40 (by decide) ?_
        refine xg_iload_n xa_M_free_41 rfl ?_
        refine xg_ishl xa_M_free_42 rfl ?_
        refine xg_ior xa_M_free_43 rfl ?_
        refine xg_goto xa_M_free_44 ?_
        refine next _ ?_
        show _ = if _ then _ else _
        rw [if_pos ⟨(xz0 _).mp c18, (xz0 _).mp c27, e⟩]
        rfl
  refine xg_iconst (v := 0) xa_M_free_0 (by decide) ?_
  refine xg_istore_n (L' := [_, _, _, _]) xa_M_free_1 (Nat.le_of_ble_eq_true rfl) rfl ?_
  refine xg_iconst (v := 0) xa_M_free_2 (by decide) ?_
  refine xg_istore_n (L' := [_, _, _, _]) xa_M_free_3 (Nat.le_of_ble_eq_true rfl) rfl ?_
  exact loop Mm 0 (by omega)
/-- the first place that is not there -/
def xunu (t : Nat → Bool) : Nat → Nat → Nat
  | 0, i => i
  | n + 1, i => if t i = true then xunu t n (i + 1) else i
theorem c_M_unused (hM : xMd h Mc Mn Mm Mh Mp Mfw Mfs Me Ml Mbr Mlk Mt Mg Ma Mb Mw Mwk Msp Mon Mct MS MZ MA MN) (k : Q (.inl (some (.int (nI (xunu Mt 12 0))))) (h, ks, fl)) : xG xs LS d 74 (0, xm_entry xP 74 [.ref 22], []) (h, ks, fl) Q := by
  obtain ⟨g22, g23, g24, g25, g26, g27, g28, g29, g30, g31, g32, g33, g34, g35, g36, g37, g38, g39⟩ := id hM
  show xG xs LS d 74 (0, [some (.ref 22), none], []) (h, ks, fl) Q
  have loop : ∀ n i, i + n = 12 → Q (.inl (some (.int (nI (xunu Mt n i))))) (h, ks, fl) → xG xs LS d 74 (2, [some (.ref 22), some (.int (nI i))], []) (h, ks, fl) Q := by
    intro n
    induction n with
    | zero =>
      intro i hi k
      have e : i = 12 := by omega
      subst e
      refine xg_iload_n xa_M_unused_2 rfl ?_
      refine xg_bipush (v := 12) xa_M_unused_3 (by decide) ?_
      refine xg_icmp_ge xa_M_unused_5 (fun c5 => ?_) (fun c5 => absurd (by decide) c5)
      refine xg_bipush (v := 12) xa_M_unused_25 (by decide) ?_
      refine xg_ireturn xa_M_unused_27  ?_
      exact k
    | succ n ih =>
      intro i hi k
      have hi12 : i < 12 := by omega
      unfold xunu at k
      refine xg_iload_n xa_M_unused_2 rfl ?_
      refine xg_bipush (v := 12) xa_M_unused_3 (by decide) ?_
      refine xg_icmp_ge xa_M_unused_5 (fun c => absurd c (show ¬ nI 12 ≤ nI i from nI_ge (by omega) (by omega))) (fun _ => ?_)
      refine xg_aload_n xa_M_unused_8 rfl ?_
      refine xg_getfield xa_M_unused_9 (by assumption) rfl ?_
      refine xg_iload_n xa_M_unused_12 rfl ?_
      refine xg_zald_n xa_M_unused_13 (by assumption) rfl (by assumption) (by decide) ?_
      refine xg_if_ne xa_M_unused_14 (fun c => ?_) (fun c => ?_)
      · rw [if_pos (xz1 c)] at k
        refine xg_iinc (L' := [_, _]) xa_M_unused_19 rfl (xi_inc _) rfl ?_
        refine xg_goto xa_M_unused_22 ?_
        exact ih (i + 1) (by omega) k
      · rw [if_neg (by rw [(xz0 _).mp c]; decide)] at k
        refine xg_iload_n xa_M_unused_17 rfl ?_
        refine xg_ireturn xa_M_unused_18  ?_
        exact k
  refine xg_iconst (v := 0) xa_M_unused_0 (by decide) ?_
  refine xg_istore_n (L' := [_, _]) xa_M_unused_1 (Nat.le_of_ble_eq_true rfl) rfl ?_
  exact loop 12 0 (by omega) k
end XM2
