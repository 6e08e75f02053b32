/-! 65.fpub2: the class's about, user, fits, bridge, exposed, count. -/
theorem xa_F_about_0 : xm_at xP 54 0 = some (0, .aload_n 0, 0, 0, 0, 0) := by decide +kernel
theorem xa_F_about_1 : xm_at xP 54 1 = some (1, .iload_n 1, 0, 0, 0, 0) := by decide +kernel
theorem xa_F_about_2 : xm_at xP 54 2 = some (2, .invokevirtual 70, 39, 2, 2, 0) := by decide +kernel
theorem xa_F_about_5 : xm_at xP 54 5 = some (5, .aload_n 0, 0, 0, 0, 0) := by decide +kernel
theorem xa_F_about_6 : xm_at xP 54 6 = some (6, .getfield 18, 2, 1, 0, 0) := by decide +kernel
theorem xa_F_about_9 : xm_at xP 54 9 = some (9, .iload_n 1, 0, 0, 0, 0) := by decide +kernel
theorem xa_F_about_10 : xm_at xP 54 10 = some (10, .aaload, 0, 0, 0, 0) := by decide +kernel
theorem xa_F_about_11 : xm_at xP 54 11 = some (11, .astore_n 3, 0, 0, 0, 0) := by decide +kernel
theorem xa_F_about_12 : xm_at xP 54 12 = some (12, .iload_n 2, 0, 0, 0, 0) := by decide +kernel
theorem xa_F_about_13 : xm_at xP 54 13 = some (13, .tableswitch 103 0 6 #[43, 48, 53, 58, 70, 93, 98], 0, 0, 43, 0) := by decide +kernel
theorem xa_F_about_56 : xm_at xP 54 56 = some (56, .aload_n 3, 0, 0, 0, 0) := by decide +kernel
theorem xa_F_about_57 : xm_at xP 54 57 = some (57, .getfield 98, 0, 4, 0, 0) := by decide +kernel
theorem xa_F_about_60 : xm_at xP 54 60 = some (60, .ireturn, 0, 0, 0, 0) := by decide +kernel
theorem xa_F_about_61 : xm_at xP 54 61 = some (61, .aload_n 3, 0, 0, 0, 0) := by decide +kernel
theorem xa_F_about_62 : xm_at xP 54 62 = some (62, .getfield 92, 0, 2, 0, 0) := by decide +kernel
theorem xa_F_about_65 : xm_at xP 54 65 = some (65, .ireturn, 0, 0, 0, 0) := by decide +kernel
theorem xa_F_about_66 : xm_at xP 54 66 = some (66, .aload_n 3, 0, 0, 0, 0) := by decide +kernel
theorem xa_F_about_67 : xm_at xP 54 67 = some (67, .getfield 101, 0, 3, 0, 0) := by decide +kernel
theorem xa_F_about_70 : xm_at xP 54 70 = some (70, .ireturn, 0, 0, 0, 0) := by decide +kernel
theorem xa_F_about_71 : xm_at xP 54 71 = some (71, .aload_n 0, 0, 0, 0, 0) := by decide +kernel
theorem xa_F_about_72 : xm_at xP 54 72 = some (72, .getfield 10, 2, 0, 0, 0) := by decide +kernel
theorem xa_F_about_75 : xm_at xP 54 75 = some (75, .aload_n 3, 0, 0, 0, 0) := by decide +kernel
theorem xa_F_about_76 : xm_at xP 54 76 = some (76, .getfield 89, 0, 5, 0, 0) := by decide +kernel
theorem xa_F_about_79 : xm_at xP 54 79 = some (79, .invokevirtual 104, 55, 2, 1, 0) := by decide +kernel
theorem xa_F_about_82 : xm_at xP 54 82 = some (82, .ireturn, 0, 0, 0, 0) := by decide +kernel
theorem xa_F_about_83 : xm_at xP 54 83 = some (83, .aload_n 3, 0, 0, 0, 0) := by decide +kernel
theorem xa_F_about_84 : xm_at xP 54 84 = some (84, .getfield 108, 0, 1, 0, 0) := by decide +kernel
theorem xa_F_about_87 : xm_at xP 54 87 = some (87, .ifCond .eq 17, 104, 0, 0, 0) := by decide +kernel
theorem xa_F_about_90 : xm_at xP 54 90 = some (90, .aload_n 0, 0, 0, 0, 0) := by decide +kernel
theorem xa_F_about_91 : xm_at xP 54 91 = some (91, .getfield 10, 2, 0, 0, 0) := by decide +kernel
theorem xa_F_about_94 : xm_at xP 54 94 = some (94, .aload_n 3, 0, 0, 0, 0) := by decide +kernel
theorem xa_F_about_95 : xm_at xP 54 95 = some (95, .getfield 86, 0, 6, 0, 0) := by decide +kernel
theorem xa_F_about_98 : xm_at xP 54 98 = some (98, .invokevirtual 104, 55, 2, 1, 0) := by decide +kernel
theorem xa_F_about_101 : xm_at xP 54 101 = some (101, .goto 4, 105, 0, 0, 0) := by decide +kernel
theorem xa_F_about_104 : xm_at xP 54 104 = some (104, .iconst (-1), 0, 0, 0, 0) := by decide +kernel
theorem xa_F_about_105 : xm_at xP 54 105 = some (105, .ireturn, 0, 0, 0, 0) := by decide +kernel
theorem xa_F_about_106 : xm_at xP 54 106 = some (106, .aload_n 3, 0, 0, 0, 0) := by decide +kernel
theorem xa_F_about_107 : xm_at xP 54 107 = some (107, .getfield 111, 0, 7, 0, 0) := by decide +kernel
theorem xa_F_about_110 : xm_at xP 54 110 = some (110, .ireturn, 0, 0, 0, 0) := by decide +kernel
theorem xa_F_about_111 : xm_at xP 54 111 = some (111, .aload_n 3, 0, 0, 0, 0) := by decide +kernel
theorem xa_F_about_112 : xm_at xP 54 112 = some (112, .getfield 114, 0, 8, 0, 0) := by decide +kernel
theorem xa_F_about_115 : xm_at xP 54 115 = some (115, .ireturn, 0, 0, 0, 0) := by decide +kernel
theorem xa_F_about_116 : xm_at xP 54 116 = some (116, .new 23, 4, 25, 0, 1) := by decide +kernel
theorem xa_F_user_0 : xm_at xP 57 0 = some (0, .aload_n 0, 0, 0, 0, 0) := by decide +kernel
theorem xa_F_user_1 : xm_at xP 57 1 = some (1, .iload_n 1, 0, 0, 0, 0) := by decide +kernel
theorem xa_F_user_2 : xm_at xP 57 2 = some (2, .invokevirtual 73, 42, 2, 2, 0) := by decide +kernel
theorem xa_F_user_5 : xm_at xP 57 5 = some (5, .iload_n 2, 0, 0, 0, 0) := by decide +kernel
theorem xa_F_user_6 : xm_at xP 57 6 = some (6, .invokestatic 117, 58, 1, 0, 0) := by decide +kernel
theorem xa_F_user_9 : xm_at xP 57 9 = some (9, .iconst 0, 0, 0, 0, 0) := by decide +kernel
theorem xa_F_user_10 : xm_at xP 57 10 = some (10, .istore_n 3, 0, 0, 0, 0) := by decide +kernel
theorem xa_F_user_11 : xm_at xP 57 11 = some (11, .iload_n 3, 0, 0, 0, 0) := by decide +kernel
theorem xa_F_user_12 : xm_at xP 57 12 = some (12, .bipush 12, 0, 0, 0, 0) := by decide +kernel
theorem xa_F_user_14 : xm_at xP 57 14 = some (14, .if_icmp .ge 28, 42, 0, 0, 0) := by decide +kernel
theorem xa_F_user_17 : xm_at xP 57 17 = some (17, .aload_n 0, 0, 0, 0, 0) := by decide +kernel
theorem xa_F_user_18 : xm_at xP 57 18 = some (18, .getfield 18, 2, 1, 0, 0) := by decide +kernel
theorem xa_F_user_21 : xm_at xP 57 21 = some (21, .iload_n 3, 0, 0, 0, 0) := by decide +kernel
theorem xa_F_user_22 : xm_at xP 57 22 = some (22, .aaload, 0, 0, 0, 0) := by decide +kernel
theorem xa_F_user_23 : xm_at xP 57 23 = some (23, .iload_n 2, 0, 0, 0, 0) := by decide +kernel
theorem xa_F_user_24 : xm_at xP 57 24 = some (24, .invokevirtual 120, 23, 2, 0, 0) := by decide +kernel
theorem xa_F_user_27 : xm_at xP 57 27 = some (27, .iload_n 1, 0, 0, 0, 0) := by decide +kernel
theorem xa_F_user_28 : xm_at xP 57 28 = some (28, .invokestatic 76, 28, 2, 0, 0) := by decide +kernel
theorem xa_F_user_31 : xm_at xP 57 31 = some (31, .ifCond .eq 5, 36, 0, 0, 0) := by decide +kernel
theorem xa_F_user_34 : xm_at xP 57 34 = some (34, .iload_n 3, 0, 0, 0, 0) := by decide +kernel
theorem xa_F_user_35 : xm_at xP 57 35 = some (35, .ireturn, 0, 0, 0, 0) := by decide +kernel
theorem xa_F_user_36 : xm_at xP 57 36 = some (36, .iinc 3 1, 0, 0, 0, 0) := by decide +kernel
theorem xa_F_user_39 : xm_at xP 57 39 = some (39, .goto (-28), 11, 0, 0, 0) := by decide +kernel
theorem xa_F_user_42 : xm_at xP 57 42 = some (42, .iconst (-1), 0, 0, 0, 0) := by decide +kernel
theorem xa_F_user_43 : xm_at xP 57 43 = some (43, .ireturn, 0, 0, 0, 0) := by decide +kernel
theorem xa_F_fits_0 : xm_at xP 62 0 = some (0, .aload_n 0, 0, 0, 0, 0) := by decide +kernel
theorem xa_F_fits_1 : xm_at xP 62 1 = some (1, .iload_n 1, 0, 0, 0, 0) := by decide +kernel
theorem xa_F_fits_2 : xm_at xP 62 2 = some (2, .iload_n 2, 0, 0, 0, 0) := by decide +kernel
theorem xa_F_fits_3 : xm_at xP 62 3 = some (3, .invokevirtual 44, 15, 3, 2, 0) := by decide +kernel
theorem xa_F_fits_6 : xm_at xP 62 6 = some (6, .iconst 0, 0, 0, 0, 0) := by decide +kernel
theorem xa_F_fits_7 : xm_at xP 62 7 = some (7, .istore_n 3, 0, 0, 0, 0) := by decide +kernel
theorem xa_F_fits_8 : xm_at xP 62 8 = some (8, .iconst 0, 0, 0, 0, 0) := by decide +kernel
theorem xa_F_fits_9 : xm_at xP 62 9 = some (9, .istore 4, 0, 0, 0, 0) := by decide +kernel
theorem xa_F_fits_11 : xm_at xP 62 11 = some (11, .iload 4, 0, 0, 0, 0) := by decide +kernel
theorem xa_F_fits_13 : xm_at xP 62 13 = some (13, .iconst 4, 0, 0, 0, 0) := by decide +kernel
theorem xa_F_fits_14 : xm_at xP 62 14 = some (14, .if_icmp .ge 30, 44, 0, 0, 0) := by decide +kernel
theorem xa_F_fits_17 : xm_at xP 62 17 = some (17, .aload_n 0, 0, 0, 0, 0) := by decide +kernel
theorem xa_F_fits_18 : xm_at xP 62 18 = some (18, .getfield 10, 2, 0, 0, 0) := by decide +kernel
theorem xa_F_fits_21 : xm_at xP 62 21 = some (21, .aload_n 0, 0, 0, 0, 0) := by decide +kernel
theorem xa_F_fits_22 : xm_at xP 62 22 = some (22, .iload 4, 0, 0, 0, 0) := by decide +kernel
theorem xa_F_fits_24 : xm_at xP 62 24 = some (24, .invokevirtual 123, 22, 2, 2, 0) := by decide +kernel
theorem xa_F_fits_27 : xm_at xP 62 27 = some (27, .iload_n 1, 0, 0, 0, 0) := by decide +kernel
theorem xa_F_fits_28 : xm_at xP 62 28 = some (28, .iload_n 2, 0, 0, 0, 0) := by decide +kernel
theorem xa_F_fits_29 : xm_at xP 62 29 = some (29, .invokevirtual 126, 25, 4, 1, 0) := by decide +kernel
theorem xa_F_fits_32 : xm_at xP 62 32 = some (32, .ifCond .eq 6, 38, 0, 0, 0) := by decide +kernel
theorem xa_F_fits_35 : xm_at xP 62 35 = some (35, .iinc 3 1, 0, 0, 0, 0) := by decide +kernel
theorem xa_F_fits_38 : xm_at xP 62 38 = some (38, .iinc 4 1, 0, 0, 0, 0) := by decide +kernel
theorem xa_F_fits_41 : xm_at xP 62 41 = some (41, .goto (-30), 11, 0, 0, 0) := by decide +kernel
theorem xa_F_fits_44 : xm_at xP 62 44 = some (44, .iload_n 3, 0, 0, 0, 0) := by decide +kernel
theorem xa_F_fits_45 : xm_at xP 62 45 = some (45, .ireturn, 0, 0, 0, 0) := by decide +kernel
theorem xa_F_bridge_0 : xm_at xP 64 0 = some (0, .iload_n 3, 0, 0, 0, 0) := by decide +kernel
theorem xa_F_bridge_1 : xm_at xP 64 1 = some (1, .invokestatic 117, 58, 1, 0, 0) := by decide +kernel
theorem xa_F_bridge_4 : xm_at xP 64 4 = some (4, .aload_n 0, 0, 0, 0, 0) := by decide +kernel
theorem xa_F_bridge_5 : xm_at xP 64 5 = some (5, .iload_n 1, 0, 0, 0, 0) := by decide +kernel
theorem xa_F_bridge_6 : xm_at xP 64 6 = some (6, .iload_n 2, 0, 0, 0, 0) := by decide +kernel
theorem xa_F_bridge_7 : xm_at xP 64 7 = some (7, .invokevirtual 44, 15, 3, 2, 0) := by decide +kernel
theorem xa_F_bridge_10 : xm_at xP 64 10 = some (10, .aload_n 0, 0, 0, 0, 0) := by decide +kernel
theorem xa_F_bridge_11 : xm_at xP 64 11 = some (11, .iload_n 3, 0, 0, 0, 0) := by decide +kernel
theorem xa_F_bridge_12 : xm_at xP 64 12 = some (12, .invokevirtual 123, 22, 2, 2, 0) := by decide +kernel
theorem xa_F_bridge_15 : xm_at xP 64 15 = some (15, .istore 4, 0, 0, 0, 0) := by decide +kernel
theorem xa_F_bridge_17 : xm_at xP 64 17 = some (17, .aload_n 0, 0, 0, 0, 0) := by decide +kernel
theorem xa_F_bridge_18 : xm_at xP 64 18 = some (18, .getfield 10, 2, 0, 0, 0) := by decide +kernel
theorem xa_F_bridge_21 : xm_at xP 64 21 = some (21, .iload 4, 0, 0, 0, 0) := by decide +kernel
theorem xa_F_bridge_23 : xm_at xP 64 23 = some (23, .iload_n 1, 0, 0, 0, 0) := by decide +kernel
theorem xa_F_bridge_24 : xm_at xP 64 24 = some (24, .iload_n 2, 0, 0, 0, 0) := by decide +kernel
theorem xa_F_bridge_25 : xm_at xP 64 25 = some (25, .invokevirtual 129, 26, 4, 1, 0) := by decide +kernel
theorem xa_F_bridge_28 : xm_at xP 64 28 = some (28, .istore 5, 0, 0, 0, 0) := by decide +kernel
theorem xa_F_bridge_30 : xm_at xP 64 30 = some (30, .iload 5, 0, 0, 0, 0) := by decide +kernel
theorem xa_F_bridge_32 : xm_at xP 64 32 = some (32, .ifCond .ne 5, 37, 0, 0, 0) := by decide +kernel
theorem xa_F_bridge_35 : xm_at xP 64 35 = some (35, .iconst (-1), 0, 0, 0, 0) := by decide +kernel
theorem xa_F_bridge_36 : xm_at xP 64 36 = some (36, .ireturn, 0, 0, 0, 0) := by decide +kernel
theorem xa_F_bridge_37 : xm_at xP 64 37 = some (37, .iconst 0, 0, 0, 0, 0) := by decide +kernel
theorem xa_F_bridge_38 : xm_at xP 64 38 = some (38, .istore 6, 0, 0, 0, 0) := by decide +kernel
theorem xa_F_bridge_40 : xm_at xP 64 40 = some (40, .iload 6, 0, 0, 0, 0) := by decide +kernel
theorem xa_F_bridge_42 : xm_at xP 64 42 = some (42, .aload_n 0, 0, 0, 0, 0) := by decide +kernel
theorem xa_F_bridge_43 : xm_at xP 64 43 = some (43, .getfield 10, 2, 0, 0, 0) := by decide +kernel
theorem xa_F_bridge_46 : xm_at xP 64 46 = some (46, .getfield 48, 1, 1, 0, 0) := by decide +kernel
theorem xa_F_bridge_49 : xm_at xP 64 49 = some (49, .if_icmp .ge 41, 90, 0, 0, 0) := by decide +kernel
theorem xa_F_bridge_52 : xm_at xP 64 52 = some (52, .iload 5, 0, 0, 0, 0) := by decide +kernel
theorem xa_F_bridge_54 : xm_at xP 64 54 = some (54, .iload 6, 0, 0, 0, 0) := by decide +kernel
theorem xa_F_bridge_56 : xm_at xP 64 56 = some (56, .invokestatic 76, 28, 2, 0, 0) := by decide +kernel
theorem xa_F_bridge_59 : xm_at xP 64 59 = some (59, .ifCond .eq 25, 84, 0, 0, 0) := by decide +kernel
theorem xa_F_bridge_62 : xm_at xP 64 62 = some (62, .aload_n 0, 0, 0, 0, 0) := by decide +kernel
theorem xa_F_bridge_63 : xm_at xP 64 63 = some (63, .getfield 10, 2, 0, 0, 0) := by decide +kernel
theorem xa_F_bridge_66 : xm_at xP 64 66 = some (66, .iload 4, 0, 0, 0, 0) := by decide +kernel
theorem xa_F_bridge_68 : xm_at xP 64 68 = some (68, .iconst 1, 0, 0, 0, 0) := by decide +kernel
theorem xa_F_bridge_69 : xm_at xP 64 69 = some (69, .iload 6, 0, 0, 0, 0) := by decide +kernel
theorem xa_F_bridge_71 : xm_at xP 64 71 = some (71, .ishl, 0, 0, 0, 0) := by decide +kernel
theorem xa_F_bridge_72 : xm_at xP 64 72 = some (72, .ixor, 0, 0, 0, 0) := by decide +kernel
theorem xa_F_bridge_73 : xm_at xP 64 73 = some (73, .iload_n 1, 0, 0, 0, 0) := by decide +kernel
theorem xa_F_bridge_74 : xm_at xP 64 74 = some (74, .iload_n 2, 0, 0, 0, 0) := by decide +kernel
theorem xa_F_bridge_75 : xm_at xP 64 75 = some (75, .invokevirtual 129, 26, 4, 1, 0) := by decide +kernel
theorem xa_F_bridge_78 : xm_at xP 64 78 = some (78, .ifCond .ne 6, 84, 0, 0, 0) := by decide +kernel
theorem xa_F_bridge_81 : xm_at xP 64 81 = some (81, .iload 6, 0, 0, 0, 0) := by decide +kernel
theorem xa_F_bridge_83 : xm_at xP 64 83 = some (83, .ireturn, 0, 0, 0, 0) := by decide +kernel
theorem xa_F_bridge_84 : xm_at xP 64 84 = some (84, .iinc 6 1, 0, 0, 0, 0) := by decide +kernel
theorem xa_F_bridge_87 : xm_at xP 64 87 = some (87, .goto (-47), 40, 0, 0, 0) := by decide +kernel
theorem xa_F_bridge_90 : xm_at xP 64 90 = some (90, .bipush (-2), 0, 0, 0, 0) := by decide +kernel
theorem xa_F_bridge_92 : xm_at xP 64 92 = some (92, .ireturn, 0, 0, 0, 0) := by decide +kernel
theorem xa_F_exposed_0 : xm_at xP 9 0 = some (0, .iconst 0, 0, 0, 0, 0) := by decide +kernel
theorem xa_F_exposed_1 : xm_at xP 9 1 = some (1, .istore_n 1, 0, 0, 0, 0) := by decide +kernel
theorem xa_F_exposed_2 : xm_at xP 9 2 = some (2, .iconst 0, 0, 0, 0, 0) := by decide +kernel
theorem xa_F_exposed_3 : xm_at xP 9 3 = some (3, .istore_n 2, 0, 0, 0, 0) := by decide +kernel
theorem xa_F_exposed_4 : xm_at xP 9 4 = some (4, .iload_n 2, 0, 0, 0, 0) := by decide +kernel
theorem xa_F_exposed_5 : xm_at xP 9 5 = some (5, .bipush 12, 0, 0, 0, 0) := by decide +kernel
theorem xa_F_exposed_7 : xm_at xP 9 7 = some (7, .if_icmp .ge 41, 48, 0, 0, 0) := by decide +kernel
theorem xa_F_exposed_10 : xm_at xP 9 10 = some (10, .aload_n 0, 0, 0, 0, 0) := by decide +kernel
theorem xa_F_exposed_11 : xm_at xP 9 11 = some (11, .getfield 18, 2, 1, 0, 0) := by decide +kernel
theorem xa_F_exposed_14 : xm_at xP 9 14 = some (14, .iload_n 2, 0, 0, 0, 0) := by decide +kernel
theorem xa_F_exposed_15 : xm_at xP 9 15 = some (15, .aaload, 0, 0, 0, 0) := by decide +kernel
theorem xa_F_exposed_16 : xm_at xP 9 16 = some (16, .astore_n 3, 0, 0, 0, 0) := by decide +kernel
theorem xa_F_exposed_17 : xm_at xP 9 17 = some (17, .aload_n 3, 0, 0, 0, 0) := by decide +kernel
theorem xa_F_exposed_18 : xm_at xP 9 18 = some (18, .getfield 30, 0, 0, 0, 0) := by decide +kernel
theorem xa_F_exposed_21 : xm_at xP 9 21 = some (21, .ifCond .eq 21, 42, 0, 0, 0) := by decide +kernel
theorem xa_F_exposed_24 : xm_at xP 9 24 = some (24, .aload_n 3, 0, 0, 0, 0) := by decide +kernel
theorem xa_F_exposed_25 : xm_at xP 9 25 = some (25, .getfield 108, 0, 1, 0, 0) := by decide +kernel
theorem xa_F_exposed_28 : xm_at xP 9 28 = some (28, .ifCond .eq 14, 42, 0, 0, 0) := by decide +kernel
theorem xa_F_exposed_31 : xm_at xP 9 31 = some (31, .aload_n 3, 0, 0, 0, 0) := by decide +kernel
theorem xa_F_exposed_32 : xm_at xP 9 32 = some (32, .getfield 111, 0, 7, 0, 0) := by decide +kernel
theorem xa_F_exposed_35 : xm_at xP 9 35 = some (35, .iconst 2, 0, 0, 0, 0) := by decide +kernel
theorem xa_F_exposed_36 : xm_at xP 9 36 = some (36, .if_icmp .ne 6, 42, 0, 0, 0) := by decide +kernel
theorem xa_F_exposed_39 : xm_at xP 9 39 = some (39, .iinc 1 1, 0, 0, 0, 0) := by decide +kernel
theorem xa_F_exposed_42 : xm_at xP 9 42 = some (42, .iinc 2 1, 0, 0, 0, 0) := by decide +kernel
theorem xa_F_exposed_45 : xm_at xP 9 45 = some (45, .goto (-41), 4, 0, 0, 0) := by decide +kernel
theorem xa_F_exposed_48 : xm_at xP 9 48 = some (48, .iload_n 1, 0, 0, 0, 0) := by decide +kernel
theorem xa_F_exposed_49 : xm_at xP 9 49 = some (49, .ireturn, 0, 0, 0, 0) := by decide +kernel
theorem xa_F_count_0 : xm_at xP 66 0 = some (0, .iload_n 1, 0, 0, 0, 0) := by decide +kernel
theorem xa_F_count_1 : xm_at xP 66 1 = some (1, .tableswitch 72 0 4 #[35, 43, 51, 56, 64], 0, 0, 35, 0) := by decide +kernel
theorem xa_F_count_36 : xm_at xP 66 36 = some (36, .aload_n 0, 0, 0, 0, 0) := by decide +kernel
theorem xa_F_count_37 : xm_at xP 66 37 = some (37, .getfield 10, 2, 0, 0, 0) := by decide +kernel
theorem xa_F_count_40 : xm_at xP 66 40 = some (40, .getfield 132, 1, 0, 0, 0) := by decide +kernel
theorem xa_F_count_43 : xm_at xP 66 43 = some (43, .ireturn, 0, 0, 0, 0) := by decide +kernel
theorem xa_F_count_44 : xm_at xP 66 44 = some (44, .aload_n 0, 0, 0, 0, 0) := by decide +kernel
theorem xa_F_count_45 : xm_at xP 66 45 = some (45, .getfield 10, 2, 0, 0, 0) := by decide +kernel
theorem xa_F_count_48 : xm_at xP 66 48 = some (48, .getfield 48, 1, 1, 0, 0) := by decide +kernel
theorem xa_F_count_51 : xm_at xP 66 51 = some (51, .ireturn, 0, 0, 0, 0) := by decide +kernel
theorem xa_F_count_52 : xm_at xP 66 52 = some (52, .aload_n 0, 0, 0, 0, 0) := by decide +kernel
theorem xa_F_count_53 : xm_at xP 66 53 = some (53, .invokevirtual 135, 67, 1, 2, 0) := by decide +kernel
theorem xa_F_count_56 : xm_at xP 66 56 = some (56, .ireturn, 0, 0, 0, 0) := by decide +kernel
theorem xa_F_count_57 : xm_at xP 66 57 = some (57, .aload_n 0, 0, 0, 0, 0) := by decide +kernel
theorem xa_F_count_58 : xm_at xP 66 58 = some (58, .getfield 34, 2, 2, 0, 0) := by decide +kernel
theorem xa_F_count_61 : xm_at xP 66 61 = some (61, .invokestatic 138, 52, 1, 0, 0) := by decide +kernel
theorem xa_F_count_64 : xm_at xP 66 64 = some (64, .ireturn, 0, 0, 0, 0) := by decide +kernel
theorem xa_F_count_65 : xm_at xP 66 65 = some (65, .aload_n 0, 0, 0, 0, 0) := by decide +kernel
theorem xa_F_count_66 : xm_at xP 66 66 = some (66, .getfield 38, 2, 3, 0, 0) := by decide +kernel
theorem xa_F_count_69 : xm_at xP 66 69 = some (69, .invokestatic 138, 52, 1, 0, 0) := by decide +kernel
theorem xa_F_count_72 : xm_at xP 66 72 = some (72, .ireturn, 0, 0, 0, 0) := by decide +kernel
theorem xa_F_count_73 : xm_at xP 66 73 = some (73, .new 23, 4, 25, 0, 1) := by decide +kernel
section XW2
variable {xs : Nat → Int32} {LS d : Nat} {ks : Nat} {fl : Bool} {h h' : List va_E} {Q : (Option Value ⊕ Nat) → xm_S → Prop}
variable {Mc : Int32} {Mn : Nat} {Mm : Nat} {Mh : Int32} {Mp : Nat} {Mfw : Int32} {Mfs : Int32} {Me : Nat → Nat} {Ml : Nat → Nat} {Mbr : Nat → Bool} {Mlk : Nat → Bool} {Mt : Nat → Bool} {Mg : Nat → Bool} {Ma : Nat → Nat} {Mb : Nat → Nat} {Mw : Nat → Nat} {Mwk : Nat → Int32} {Msp : Nat → Int32} {Mon : Nat → Int32} {Mct : Nat → Int32} {MS : Nat → Int32} {MZ : Nat → Int32} {MA : Nat → Nat} {MN : Nat → Nat}
theorem c_F_about {x y : Int32} (hm : Mm ≤ 14) (hC : xCS h Mn Mm Mh Me Ml Mbr Mlk Mt Mg Ma Mb Mw Mwk Msp Mon Mct)
    (k1 : cd_about Mt x y = 1 → Q (.inr h.length) (h ++ [.inr (5, [])], ks + 6, true)) (k2 : cd_about Mt x y = 2 → Q (.inr h.length) (h ++ [.inr (4, [])], ks + 6, true))
    (k0 : cd_about Mt x y = 0 → ∀ c j fl', c < 12 → x = nI c → Mt c = true → j ≤ 6 → y = nI j → Q (.inl (some (.int (xabt Mm Ml (Mg c) (Ma c) (Mb c) (Mw c) (Mwk c) (Msp c) (Mon c) (Mct c) j)))) (h, ks, fl')) :
    xG xs LS (d + 6) 54 (0, xm_entry xP 54 [.ref 0, .int x, .int y], []) (h, ks, true) Q := by
  show xG xs LS (d + 6) 54 (0, [some (.ref 0), some (.int x), some (.int y), none], []) (h, ks, true) Q
  obtain ⟨cut, lk, K, hF, R⟩ := hC
  obtain ⟨f0, ⟨on, bk, co, wy, fN⟩, ⟨fa, f9, fj⟩, fK⟩ := id hF
  obtain ⟨f1, f2, f3, f4, f5, f6, f7, f8⟩ := id fN
  unfold cd_about at k1 k2 k0
  refine xg_aload_n xa_F_about_0 rfl ?_
  refine xg_iload_n xa_F_about_1 rfl ?_
  refine xg_cVT xa_F_about_2 ⟨Nat.le_of_ble_eq_true rfl, Nat.le_of_ble_eq_true rfl, rfl⟩ rfl rfl (by assumption) ?_
  refine c_F_requireConnection hF (fun q => ?_) (fun q => ?_)
  · rw [r_nC R] at q
    exact xKX_up (xlast _ _) (by decide +kernel) (by decide +kernel) (k1 (if_pos q))
  · rw [r_nC R] at q
    refine xKX_n ?_
    rw [if_neg (by rw [q]; decide)] at k2 k0
    obtain ⟨c, hc, rfl, ht⟩ := xi_c q
    have hfc := fj c hc
    have hcc := fK c hc
    rw [R.2.2.2 c hc ht] at hcc
    have t6 : (6 : Int32).toInt = 6 := by decide
    have t0 : (0 : Int32).toInt = 0 := by decide
    show xG xs LS (d + 6) 54 (5, [some (.ref 0), some (.int (nI c)), some (.int y), none], []) (h, ks, true) Q
    refine xg_aload_n xa_F_about_5 rfl ?_
    refine xg_getfield xa_F_about_6 (by assumption) rfl ?_
    refine xg_iload_n xa_F_about_9 rfl ?_
    refine xg_aald_n xa_F_about_10 (by assumption) rfl (by assumption) (by decide) (by assumption) ?_
    refine xg_astore_n (L' := [_, _, _, _]) xa_F_about_11 (Nat.le_of_ble_eq_true rfl) rfl ?_
    refine xg_iload_n xa_F_about_12 rfl ?_
    by_cases cy : y < 0 ∨ ¬ y ≤ 6
    · rw [if_pos cy] at k2
      refine xg_tableOut (t := 116) xa_F_about_13 ?_ (by decide) ?_
      · rw [Int32.lt_iff_toInt_lt, Int32.le_iff_toInt_le, t6, t0] at cy
        omega
      · refine xg_throw xa_F_about_116 (Nat.le_of_ble_eq_true rfl) (by decide +kernel) (by omega) ?_
        exact k2 rfl
    · rw [if_neg cy] at k0
      obtain ⟨j, hj, rfl⟩ := nI_of2 (M := 6) (n := 6) (by decide) (fun z => cy (Or.inl z)) (Classical.not_not.mp (fun z => cy (Or.inr z)))
      have kk := fun fl' => k0 rfl c j fl' hc rfl ht hj rfl
      clear k0 k1 k2
      have cases : j = 0 ∨ j = 1 ∨ j = 2 ∨ j = 3 ∨ j = 4 ∨ j = 5 ∨ j = 6 := by omega
      rcases cases with rfl | rfl | rfl | rfl | rfl | rfl | rfl
      · refine xg_tableIn (t := 56) (off := 43) xa_F_about_13 (by decide) (by decide) (by decide) ?_
        refine xg_aload_n xa_F_about_56 rfl ?_
        refine xg_getfield xa_F_about_57 (by assumption) rfl ?_
        refine xg_ireturn xa_F_about_60  ?_
        exact kk _
      · refine xg_tableIn (t := 61) (off := 48) xa_F_about_13 (by decide) (by decide) (by decide) ?_
        refine xg_aload_n xa_F_about_61 rfl ?_
        refine xg_getfield xa_F_about_62 (by assumption) rfl ?_
        refine xg_ireturn xa_F_about_65  ?_
        exact kk _
      · refine xg_tableIn (t := 66) (off := 53) xa_F_about_13 (by decide) (by decide) (by decide) ?_
        refine xg_aload_n xa_F_about_66 rfl ?_
        refine xg_getfield xa_F_about_67 (by assumption) rfl ?_
        refine xg_ireturn xa_F_about_70  ?_
        exact kk _
      · refine xg_tableIn (t := 71) (off := 58) xa_F_about_13 (by decide) (by decide) (by decide) ?_
        refine xg_aload_n xa_F_about_71 rfl ?_
        refine xg_getfield xa_F_about_72 (by assumption) rfl ?_
        refine xg_aload_n xa_F_about_75 rfl ?_
        refine xg_getfield xa_F_about_76 (by assumption) rfl ?_
        refine xg_callV1 xa_F_about_79 ⟨Nat.le_of_ble_eq_true rfl, Nat.le_of_ble_eq_true rfl, rfl⟩ rfl rfl (by assumption) ?_
        refine c_N_lengthOf fN hm ?_
        refine xK1_c ?_
        refine xg_ireturn xa_F_about_82  ?_
        exact kk _
      · refine xg_tableIn (t := 83) (off := 70) xa_F_about_13 (by decide) (by decide) (by decide) ?_
        refine xg_aload_n xa_F_about_83 rfl ?_
        refine xg_getfield xa_F_about_84 (by assumption) rfl ?_
        refine xg_if_eq xa_F_about_87 (fun z => ?_) (fun z => ?_)
        · have hg := (xz0 _).mp z
          have hg : Mg c = false := hg
          have kk' : ∀ fl', Q (.inl (some (.int (-1)))) (h, ks, fl') := fun fl' => by
            have := kk fl'
            unfold xabt at this
            rw [hg] at this
            exact this
          refine xg_iconst (v := (-1)) xa_F_about_104 (by decide) ?_
          refine xg_ireturn xa_F_about_105  ?_
          exact kk' _
        · have hg := xz1 z
          have hg : Mg c = true := hg
          have kk' : ∀ fl', Q (.inl (some (.int (xlen (fun j => nI (Ml j)) (Msp c) Mm)))) (h, ks, fl') := fun fl' => by
            have := kk fl'
            unfold xabt at this
            rw [hg] at this
            exact this
          refine xg_aload_n xa_F_about_90 rfl ?_
          refine xg_getfield xa_F_about_91 (by assumption) rfl ?_
          refine xg_aload_n xa_F_about_94 rfl ?_
          refine xg_getfield xa_F_about_95 (by assumption) rfl ?_
          refine xg_callV1 xa_F_about_98 ⟨Nat.le_of_ble_eq_true rfl, Nat.le_of_ble_eq_true rfl, rfl⟩ rfl rfl (by assumption) ?_
          refine c_N_lengthOf fN hm ?_
          refine xK1_c ?_
          refine xg_goto xa_F_about_101 ?_
          refine xg_ireturn xa_F_about_105  ?_
          exact kk' _
      · refine xg_tableIn (t := 106) (off := 93) xa_F_about_13 (by decide) (by decide) (by decide) ?_
        refine xg_aload_n xa_F_about_106 rfl ?_
        refine xg_getfield xa_F_about_107 (by assumption) rfl ?_
        refine xg_ireturn xa_F_about_110  ?_
        exact kk _
      · refine xg_tableIn (t := 111) (off := 98) xa_F_about_13 (by decide) (by decide) (by decide) ?_
        refine xg_aload_n xa_F_about_111 rfl ?_
        refine xg_getfield xa_F_about_112 (by assumption) rfl ?_
        refine xg_ireturn xa_F_about_115  ?_
        exact kk _
theorem r_ud {cut lk : Int32} {K : Nat → xcn} (R : xRel cut lk K Mm Mbr Mlk Mt Mg Ma Mb Mw Mwk Msp Mon Mct) {f w k : Nat} (hk : k < 12) (hf : f < 32) : xb (xud (K k) (nI w)) f = xus Mt Mw Mwk Msp f w k := by
  obtain ⟨r1, r2, r3, r4⟩ := R
  unfold xud xus
  by_cases ct : Mt k = true
  · rw [r4 k hk ct]
    unfold xkm
    by_cases cw : nI (Mw k) = nI w
    · rw [if_pos ⟨rfl, cw⟩, ct, decide_eq_true cw]
      rfl
    · rw [if_neg (fun q => cw q.2), xb_0, decide_eq_false cw]
      simp
  · rw [if_neg (fun q => ct (by rw [← r3 k hk]; exact q.1)), xb_0, show Mt k = false by simpa using ct]
    rfl
theorem c_F_user {x y : Int32} (hm : Mm ≤ 14) (hC : xCS h Mn Mm Mh Me Ml Mbr Mlk Mt Mg Ma Mb Mw Mwk Msp Mon Mct)
    (k1 : cd_user Mm x y = 1 → Q (.inr h.length) (h ++ [.inr (5, [])], ks + 6, true))
    (k0 : cd_user Mm x y = 0 → ∀ f w fl', f < Mm → x = nI f → w < 4 → y = nI w → Q (.inl (some (.int (xo (xusr Mt Mw Mwk Msp f w))))) (h, ks, fl')) :
    xG xs LS (d + 6) 57 (0, xm_entry xP 57 [.ref 0, .int x, .int y], []) (h, ks, true) Q := by
  show xG xs LS (d + 6) 57 (0, [some (.ref 0), some (.int x), some (.int y), none], []) (h, ks, true) Q
  obtain ⟨cut, lk, K, hF, R⟩ := hC
  obtain ⟨f0, ⟨on, bk, co, wy, fN⟩, ⟨fa, f9, fj⟩, fK⟩ := id hF
  obtain ⟨f1, f2, f3, f4, f5, f6, f7, f8⟩ := id fN
  unfold cd_user at k1 k0
  refine xg_aload_n xa_F_user_0 rfl ?_
  refine xg_iload_n xa_F_user_1 rfl ?_
  refine xg_cVT xa_F_user_2 ⟨Nat.le_of_ble_eq_true rfl, Nat.le_of_ble_eq_true rfl, rfl⟩ rfl rfl (by assumption) ?_
  refine c_F_requireFibre hF (fun q => ?_) (fun q => ?_)
  · exact xKX_up (xlast _ _) (by decide +kernel) (by decide +kernel) (k1 (if_pos (Or.inl q)))
  · refine xKX_n ?_
    show xG xs LS (d + 6) 57 (5, [some (.ref 0), some (.int x), some (.int y), none], []) (h, ks, true) Q
    refine xg_iload_n xa_F_user_5 rfl ?_
    refine xg_cST xa_F_user_6 ⟨Nat.le_of_ble_eq_true rfl, Nat.le_of_ble_eq_true rfl, rfl⟩ rfl rfl ?_
    refine c_F_requireWavelength (fun q2 => ?_) (fun q2 => ?_)
    · exact xKX_up (xlast _ _) (by decide +kernel) (by decide +kernel) (k1 (if_pos (Or.inr q2)))
    · refine xKX_n ?_
      rw [if_neg (fun z => by
        rcases z with z | z
        · rw [q] at z; cases z
        · exact q2 z)] at k0
      obtain ⟨f, hf, rfl⟩ := xi_s (by omega) q
      obtain ⟨w, hw, rfl⟩ := nI_of2 (M := 3) (n := 3) (by decide) (fun z => q2 (Or.inl z)) (Classical.not_not.mp (fun z => q2 (Or.inr z)))
      have kk := fun fl' => k0 rfl f w fl' hf rfl (by omega) rfl
      show xG xs LS (d + 6) 57 (9, [some (.ref 0), some (.int (nI f)), some (.int (nI w)), none], []) (h, ks, true) Q
      have loop : ∀ j i fl', i + j = 12 → (∀ fl', Q (.inl (some (.int (xo (xfst (xus Mt Mw Mwk Msp f w) j i))))) (h, ks, fl')) → xG xs LS (d + 6) 57 (11, [some (.ref 0), some (.int (nI f)), some (.int (nI w)), some (.int (nI i))], []) (h, ks, fl') Q := by
        intro j
        induction j with
        | zero =>
          intro i fl' hi kz
          have ei : i = 12 := by omega
          subst ei
          refine xg_iload_n xa_F_user_11 rfl ?_
          refine xg_bipush (v := 12) xa_F_user_12 (by decide) ?_
          refine xg_icmp_ge xa_F_user_14 (fun c14 => ?_) (fun c14 => absurd (by decide) c14)
          refine xg_iconst (v := (-1)) xa_F_user_42 (by decide) ?_
          refine xg_ireturn xa_F_user_43  ?_
          exact kz _
        | succ j ih =>
          intro i fl' hi kz
          have hi12 : i < 12 := by omega
          have hfi := fj i hi12
          have hci := fK i hi12
          unfold xfst at kz
          refine xg_iload_n xa_F_user_11 rfl ?_
          refine xg_bipush (v := 12) xa_F_user_12 (by decide) ?_
          refine xg_icmp_ge xa_F_user_14 (fun c => absurd c (show ¬ nI 12 ≤ nI i from nI_ge (by omega) (by omega))) (fun _ => ?_)
          refine xg_aload_n xa_F_user_17 rfl ?_
          refine xg_getfield xa_F_user_18 (by assumption) rfl ?_
          refine xg_iload_n xa_F_user_21 rfl ?_
          refine xg_aald_n xa_F_user_22 (by assumption) rfl (by assumption) (by decide) (by assumption) ?_
          refine xg_iload_n xa_F_user_23 rfl ?_
          refine xg_callV1 xa_F_user_24 ⟨Nat.le_of_ble_eq_true rfl, Nat.le_of_ble_eq_true rfl, rfl⟩ rfl rfl (by assumption) ?_
          refine c_C_usedOn hci ?_
          refine xK1_c ?_
          refine xg_iload_n xa_F_user_27 rfl ?_
          refine xg_callS1 xa_F_user_28 ⟨Nat.le_of_ble_eq_true rfl, Nat.le_of_ble_eq_true rfl, rfl⟩ rfl rfl ?_
          refine c_F_holds ?_
          refine xK1_c ?_
          have eu : xb (if (K i).1 = true ∧ (K i).2.2.2.2.1 = nI w then (K i).2.2.2.2.2.1 ||| (K i).2.2.2.2.2.2.1 else 0) f = xus Mt Mw Mwk Msp f w i := r_ud R hi12 (by omega)
          rw [eu]
          refine xg_if_eq xa_F_user_31 (fun c => ?_) (fun c => ?_)
          · rw [if_neg (by rw [(xz0 _).mp c]; decide)] at kz
            refine xg_iinc (L' := [_, _, _, _]) xa_F_user_36 rfl (xi_inc _) rfl ?_
            refine xg_goto xa_F_user_39 ?_
            exact ih (i + 1) _ (by omega) kz
          · rw [if_pos (xz1 c)] at kz
            refine xg_iload_n xa_F_user_34 rfl ?_
            refine xg_ireturn xa_F_user_35  ?_
            exact kz _
      refine xg_iconst (v := 0) xa_F_user_9 (by decide) ?_
      refine xg_istore_n (L' := [_, _, _, _]) xa_F_user_10 (Nat.le_of_ble_eq_true rfl) rfl ?_
      exact loop 12 0 _ (by omega) kk
theorem c_F_fits {a b : Int32} (I : xIn Mn Mm Mh Me Ml Mt Mg Ma Mb Mw Mwk Msp Mon Mct) (hC : xCS h Mn Mm Mh Me Ml Mbr Mlk Mt Mg Ma Mb Mw Mwk Msp Mon Mct)
    (k1 : cd_fits Mn a b = 1 → Q (.inr h.length) (h ++ [.inr (5, [])], ks + 6, true)) (k2 : cd_fits Mn a b = 2 → Q (.inr h.length) (h ++ [.inr (4, [])], ks + 6, true))
    (k0 : cd_fits Mn a b = 0 → ∀ x y h' fl', x < Mn → y < Mn → ¬ x = y → a = nI x → b = nI y → xCS h' Mn Mm Mh Me Ml Mbr Mlk Mt Mg Ma Mb Mw Mwk Msp Mon Mct → xS h h' 0 22 → Q (.inl (some (.int (nI (xfit (xfw Mm Me Ml Mbr Mlk Mt Mw Mwk Msp x y true) 4))))) (h', ks, fl')) :
    xG xs LS (d + 6) 62 (0, xm_entry xP 62 [.ref 0, .int a, .int b], []) (h, ks, true) Q := by
  show xG xs LS (d + 6) 62 (0, [some (.ref 0), some (.int a), some (.int b), none, none], []) (h, ks, true) Q
  obtain ⟨cut, lk, K, hF, R⟩ := hC
  have hwt : ∀ c, c < 12 → Mt c = true → Mw c < 4 := fun c hc ht => (I.2.2.2 c hc ht).2.2.2.1
  obtain ⟨G, hn2, hE, I⟩ := I
  have hm := G.1
  have h7 := G.2.1
  have hsd : ∀ f, f < Mm → gsr Me f < 7 ∧ gds Me f < 7 := fun f hf => by have := G.2.2 f hf; exact ⟨by show Me (2 * f) < 7; omega, by show Me (2 * f + 1) < 7; omega⟩
  obtain ⟨f0, ⟨on, bk, co, wy, fN⟩, ⟨fa, f9, fj⟩, fK⟩ := id hF
  obtain ⟨f1, f2, f3, f4, f5, f6, f7, f8⟩ := id fN
  unfold cd_fits at k1 k2 k0
  refine xg_aload_n xa_F_fits_0 rfl ?_
  refine xg_iload_n xa_F_fits_1 rfl ?_
  refine xg_iload_n xa_F_fits_2 rfl ?_
  refine xg_cVT xa_F_fits_3 ⟨Nat.le_of_ble_eq_true rfl, Nat.le_of_ble_eq_true rfl, rfl⟩ rfl rfl (by assumption) ?_
  refine c_F_requireTwoSites hF (fun q => ?_) (fun q1 q2 => ?_) (fun q1 q2 => ?_)
  · exact xKX_up (xlast _ _) (by decide +kernel) (by decide +kernel) (k1 (if_pos q))
  · exact xKX_up (xlast _ _) (by decide +kernel) (by decide +kernel) (k2 (by rw [if_neg q1, if_pos q2]))
  · refine xKX_n ?_
    rw [if_neg q1, if_neg q2] at k0
    have qa : xnS Mn a = false := by
      cases z : xnS Mn a with
      | false => rfl
      | true => exact absurd (Or.inl z) q1
    have qb : xnS Mn b = false := by
      cases z : xnS Mn b with
      | false => rfl
      | true => exact absurd (Or.inr z) q1
    obtain ⟨x, hx, rfl⟩ := xi_s (by omega) qa
    obtain ⟨y, hy, rfl⟩ := xi_s (by omega) qb
    have hxy : ¬ x = y := fun z => q2 (by rw [z])
    have kk := fun h' fl' => k0 rfl x y h' fl' hx hy hxy rfl rfl
    show xG xs LS (d + 6) 62 (6, [some (.ref 0), some (.int (nI x)), some (.int (nI y)), none, none], []) (h, ks, true) Q
    have loop : ∀ j i h1 fl', i + j = 4 → xFc h1 Mn Mm Me Ml cut lk Mh K → xS h h1 0 22 → xG xs LS (d + 6) 62 (11, [some (.ref 0), some (.int (nI x)), some (.int (nI y)), some (.int (nI (xfit (xfw Mm Me Ml Mbr Mlk Mt Mw Mwk Msp x y true) i))), some (.int (nI i))], []) (h1, ks, fl') Q := by
      intro j
      induction j with
      | zero =>
        intro i h1 fl' hi hF hS
        have ei : i = 4 := by omega
        subst ei
        refine xg_iload xa_F_fits_11 rfl ?_
        refine xg_iconst (v := 4) xa_F_fits_13 (by decide) ?_
        refine xg_icmp_ge xa_F_fits_14 (fun c14 => ?_) (fun c14 => absurd (by decide) c14)
        refine xg_iload_n xa_F_fits_44 rfl ?_
        refine xg_ireturn xa_F_fits_45  ?_
        exact kk _ _ ⟨_, _, _, hF, R⟩ hS
      | succ j ih =>
        intro i h1 fl' hi hF hS
        obtain ⟨f0, ⟨on, bk, co, wy, fN⟩, ⟨fa, f9, fj⟩, fK⟩ := id hF
        obtain ⟨f1, f2, f3, f4, f5, f6, f7, f8⟩ := id fN
        have ex : xfit (xfw Mm Me Ml Mbr Mlk Mt Mw Mwk Msp x y true) (i + 1) = if xfw Mm Me Ml Mbr Mlk Mt Mw Mwk Msp x y true i = none then xfit (xfw Mm Me Ml Mbr Mlk Mt Mw Mwk Msp x y true) i else xfit (xfw Mm Me Ml Mbr Mlk Mt Mw Mwk Msp x y true) i + 1 := rfl
        refine xg_iload xa_F_fits_11 rfl ?_
        refine xg_iconst (v := 4) xa_F_fits_13 (by decide) ?_
        refine xg_icmp_ge xa_F_fits_14 (fun c => absurd c (show ¬ nI 4 ≤ nI i from nI_ge (by omega) (by omega))) (fun _ => ?_)
        refine xg_aload_n xa_F_fits_17 rfl ?_
        refine xg_getfield xa_F_fits_18 (by assumption) rfl ?_
        refine xg_aload_n xa_F_fits_21 rfl ?_
        refine xg_iload xa_F_fits_22 rfl ?_
        refine xg_callV1 xa_F_fits_24 ⟨Nat.le_of_ble_eq_true rfl, Nat.le_of_ble_eq_true rfl, rfl⟩ rfl rfl (by assumption) ?_
        refine c_F_freeOn hF ?_
        refine xK1_c ?_
        rw [r_free hm hwt R]
        refine xg_iload_n xa_F_fits_27 rfl ?_
        refine xg_iload_n xa_F_fits_28 rfl ?_
        refine xg_callV1 xa_F_fits_29 ⟨Nat.le_of_ble_eq_true rfl, Nat.le_of_ble_eq_true rfl, rfl⟩ rfl rfl (by assumption) ?_
        refine c_N_bestPair (src := gsr Me) (dst := gds Me) fN hm h7 (by omega) hsd (by omega) (by omega) (fun h3 f3 hN3 hS3 => xK1_d ?_)
        have hF3 := xFc_net hF hN3 (hS3.up (by omega) (by omega))
        have fx : xfw Mm Me Ml Mbr Mlk Mt Mw Mwk Msp x y true i = xfind Ml Mm (xPL Me Mm (xfre Mbr Mlk Mt Mw Mwk Msp i Mm) x y) true := rfl
        generalize xfre Mbr Mlk Mt Mw Mwk Msp i Mm = s at *
        obtain ⟨p0, p1⟩ := g_pair (on := on) (bk := bk) (co := co) (wy := wy) (s := s) G hx hy hxy
        generalize xbr (gsr Me) (gds Me) (gln Ml) Mn Mm on bk co wy s x y = T at *
        obtain ⟨t0, t1⟩ := g_path (on := on) (bk := bk) (co := co) (wy := wy) (s := T) G hx hy hxy
        have hx2 := g_find2 G hx hy hxy p0 p1 (fun _ => t0) (fun _ z => by obtain ⟨p, z1, z2, _, z4⟩ := t1 z; exact ⟨p, z1, z2, z4⟩)
        refine xg_if_eq xa_F_fits_32 (fun c => ?_) (fun c => ?_)
        · rw [if_pos c] at hx2
          rw [if_pos (fx.trans hx2)] at ex
          refine xg_iinc (L' := [_, _, _, _, _]) xa_F_fits_38 rfl (xi_inc _) rfl ?_
          refine xg_goto xa_F_fits_41 ?_
          rw [← ex]
          exact ih (i + 1) h3 _ (by omega) hF3 (hS.tr (hS3.up (by omega) (by omega)))
        · rw [if_neg c] at hx2
          rw [if_neg (fun z => by rw [fx.trans hx2] at z; cases z)] at ex
          refine xg_iinc (L' := [_, _, _, _, _]) xa_F_fits_35 rfl (xi_inc _) rfl ?_
          refine xg_iinc (L' := [_, _, _, _, _]) xa_F_fits_38 rfl (xi_inc _) rfl ?_
          refine xg_goto xa_F_fits_41 ?_
          rw [← ex]
          exact ih (i + 1) h3 _ (by omega) hF3 (hS.tr (hS3.up (by omega) (by omega)))
    refine xg_iconst (v := 0) xa_F_fits_6 (by decide) ?_
    refine xg_istore_n (L' := [_, _, _, _, _]) xa_F_fits_7 (Nat.le_of_ble_eq_true rfl) rfl ?_
    refine xg_iconst (v := 0) xa_F_fits_8 (by decide) ?_
    refine xg_istore (L' := [_, _, _, _, _]) xa_F_fits_9 (Nat.le_of_ble_eq_true rfl) rfl ?_
    exact loop 4 0 h _ (by omega) hF xS.rf
theorem c_F_bridge {a b w : Int32} (I : xIn Mn Mm Mh Me Ml Mt Mg Ma Mb Mw Mwk Msp Mon Mct) (hC : xCS h Mn Mm Mh Me Ml Mbr Mlk Mt Mg Ma Mb Mw Mwk Msp Mon Mct)
    (k1 : cd_bridge Mn a b w = 1 → Q (.inr h.length) (h ++ [.inr (5, [])], ks + 6, true)) (k2 : cd_bridge Mn a b w = 2 → Q (.inr h.length) (h ++ [.inr (4, [])], ks + 6, true))
    (k0 : cd_bridge Mn a b w = 0 → ∀ x y z h' fl', x < Mn → y < Mn → ¬ x = y → z < 4 → a = nI x → b = nI y → w = nI z → xCS h' Mn Mm Mh Me Ml Mbr Mlk Mt Mg Ma Mb Mw Mwk Msp Mon Mct → xS h h' 0 22 → Q (.inl (some (.int (xbrg Mm (xfre Mbr Mlk Mt Mw Mwk Msp z Mm) (xPL Me Mm (xfre Mbr Mlk Mt Mw Mwk Msp z Mm) x y))))) (h', ks, fl')) :
    xG xs LS (d + 6) 64 (0, xm_entry xP 64 [.ref 0, .int a, .int b, .int w], []) (h, ks, true) Q := by
  show xG xs LS (d + 6) 64 (0, [some (.ref 0), some (.int a), some (.int b), some (.int w), none, none, none], []) (h, ks, true) Q
  obtain ⟨cut, lk, K, hF, R⟩ := hC
  have hwt : ∀ c, c < 12 → Mt c = true → Mw c < 4 := fun c hc ht => (I.2.2.2 c hc ht).2.2.2.1
  obtain ⟨G, hn2, hE, I⟩ := I
  have hm := G.1
  have h7 := G.2.1
  have hsd : ∀ f, f < Mm → gsr Me f < 7 ∧ gds Me f < 7 := fun f hf => by have := G.2.2 f hf; exact ⟨by show Me (2 * f) < 7; omega, by show Me (2 * f + 1) < 7; omega⟩
  obtain ⟨f0, ⟨on, bk, co, wy, fN⟩, ⟨fa, f9, fj⟩, fK⟩ := id hF
  obtain ⟨f1, f2, f3, f4, f5, f6, f7, f8⟩ := id fN
  unfold cd_bridge at k1 k2 k0
  refine xg_iload_n xa_F_bridge_0 rfl ?_
  refine xg_cST xa_F_bridge_1 ⟨Nat.le_of_ble_eq_true rfl, Nat.le_of_ble_eq_true rfl, rfl⟩ rfl rfl ?_
  refine c_F_requireWavelength (fun q => ?_) (fun qw => ?_)
  · exact xKX_up (xlast _ _) (by decide +kernel) (by decide +kernel) (k1 (if_pos (Or.inr (Or.inr q))))
  · refine xKX_n ?_
    show xG xs LS (d + 6) 64 (4, [some (.ref 0), some (.int a), some (.int b), some (.int w), none, none, none], []) (h, ks, true) Q
    refine xg_aload_n xa_F_bridge_4 rfl ?_
    refine xg_iload_n xa_F_bridge_5 rfl ?_
    refine xg_iload_n xa_F_bridge_6 rfl ?_
    refine xg_cVT xa_F_bridge_7 ⟨Nat.le_of_ble_eq_true rfl, Nat.le_of_ble_eq_true rfl, rfl⟩ rfl rfl (by assumption) ?_
    refine c_F_requireTwoSites hF (fun q => ?_) (fun q1 q2 => ?_) (fun q1 q2 => ?_)
    · exact xKX_up (xlast _ _) (by decide +kernel) (by decide +kernel) (k1 (if_pos (by rcases q with q | q; exact Or.inl q; exact Or.inr (Or.inl q))))
    · have n1 : ¬ (xnS Mn a = true ∨ xnS Mn b = true ∨ w < 0 ∨ ¬ w ≤ 3) := fun z => by
        rcases z with z | z | z
        · exact q1 (Or.inl z)
        · exact q1 (Or.inr z)
        · exact qw z
      exact xKX_up (xlast _ _) (by decide +kernel) (by decide +kernel) (k2 (by rw [if_neg n1, if_pos q2]))
    · refine xKX_n ?_
      have n1 : ¬ (xnS Mn a = true ∨ xnS Mn b = true ∨ w < 0 ∨ ¬ w ≤ 3) := fun z => by
        rcases z with z | z | z
        · exact q1 (Or.inl z)
        · exact q1 (Or.inr z)
        · exact qw z
      rw [if_neg n1, if_neg q2] at k0
      have qa : xnS Mn a = false := by
        cases z : xnS Mn a with
        | false => rfl
        | true => exact absurd (Or.inl z) q1
      have qb : xnS Mn b = false := by
        cases z : xnS Mn b with
        | false => rfl
        | true => exact absurd (Or.inr z) q1
      obtain ⟨x, hx, rfl⟩ := xi_s (by omega) qa
      obtain ⟨y, hy, rfl⟩ := xi_s (by omega) qb
      obtain ⟨z, hz, rfl⟩ := nI_of2 (M := 3) (n := 3) (by decide) (fun z => qw (Or.inl z)) (Classical.not_not.mp (fun z => qw (Or.inr z)))
      have hxy : ¬ x = y := fun z => q2 (by rw [z])
      have kk := fun h' fl' => k0 rfl x y z h' fl' hx hy hxy (by omega) rfl rfl rfl
      show xG xs LS (d + 6) 64 (10, [some (.ref 0), some (.int (nI x)), some (.int (nI y)), some (.int (nI z)), none, none, none], []) (h, ks, true) Q
      refine xg_aload_n xa_F_bridge_10 rfl ?_
      refine xg_iload_n xa_F_bridge_11 rfl ?_
      refine xg_callV1 xa_F_bridge_12 ⟨Nat.le_of_ble_eq_true rfl, Nat.le_of_ble_eq_true rfl, rfl⟩ rfl rfl (by assumption) ?_
      refine c_F_freeOn hF ?_
      refine xK1_c ?_
      rw [r_free hm hwt R]
      generalize xfre Mbr Mlk Mt Mw Mwk Msp z Mm = s at *
      refine xg_istore (L' := [_, _, _, _, _, _, _]) xa_F_bridge_15 (Nat.le_of_ble_eq_true rfl) rfl ?_
      refine xg_aload_n xa_F_bridge_17 rfl ?_
      refine xg_getfield xa_F_bridge_18 (by assumption) rfl ?_
      refine xg_iload xa_F_bridge_21 rfl ?_
      refine xg_iload_n xa_F_bridge_23 rfl ?_
      refine xg_iload_n xa_F_bridge_24 rfl ?_
      refine xg_callV1 xa_F_bridge_25 ⟨Nat.le_of_ble_eq_true rfl, Nat.le_of_ble_eq_true rfl, rfl⟩ rfl rfl (by assumption) ?_
      refine c_N_bestPath (src := gsr Me) (dst := gds Me) fN hm h7 (by omega) hsd (by omega) (by omega) (fun h3 f3 hN3 hS3 => xK1_d ?_)
      have hF3 := xFc_net hF ⟨_, _, _, _, hN3⟩ (hS3.up (by omega) (by omega))
      have hS3 : xS h h3 0 22 := hS3.up (by omega) (by omega)
      obtain ⟨p0, p1⟩ := g_path (on := on) (bk := bk) (co := co) (wy := wy) (s := s) G hx hy hxy
      generalize (xbp (gsr Me) (gds Me) (gln Ml) Mn Mm on bk co wy s x).2 y = r at *
      have hk := gLk_of (s := s) (b := y) G hx
      unfold xbrg at kk
      refine xg_istore (L' := [_, _, _, _, _, _, _]) xa_F_bridge_28 (Nat.le_of_ble_eq_true rfl) rfl ?_
      refine xg_iload xa_F_bridge_30 rfl ?_
      refine xg_if_ne xa_F_bridge_32 (fun c => ?_) (fun c => ?_)
      · obtain ⟨p, hp, ep, _, _⟩ := p1 c
        have hl : ¬ (xPL Me Mm s x y).length = 0 := by
          obtain ⟨i, hi, _⟩ := hk.2.1 p hp
          omega
        rw [if_neg hl] at kk
        have hbr := fun {f : Nat} (hf : f < Mm) => g_bridge G hx hxy hp hf
        generalize xshr s (xLS (xPL Me Mm s x y)) (xPL Me Mm s x y).length = sh at *
        have hr : ∀ f, f < Mm → xb r f = decide (f ∈ p) := fun f hf => by rw [ep, gm_b (gp_32 G hp.1) (by omega)]
        have loop : ∀ j i h1 fl', i + j = Mm → (∀ h' fl', xCS h' Mn Mm Mh Me Ml Mbr Mlk Mt Mg Ma Mb Mw Mwk Msp Mon Mct → xS h h' 0 22 → Q (.inl (some (.int (match xfst (xb sh) j i with | none => -2 | some f => nI f)))) (h', ks, fl')) → xFc h1 Mn Mm Me Ml cut lk Mh K → xS h h1 0 22 → xG xs LS (d + 6) 64 (40, [some (.ref 0), some (.int (nI x)), some (.int (nI y)), some (.int (nI z)), some (.int s), some (.int r), some (.int (nI i))], []) (h1, ks, fl') Q := by
          intro j
          induction j with
          | zero =>
            intro i h1 fl' hi kz hF hS
            obtain ⟨f0, ⟨on', bk', co', wy', fN⟩, -, -⟩ := id hF
            have f1 := fN.1
            refine xg_iload xa_F_bridge_40 rfl ?_
            refine xg_aload_n xa_F_bridge_42 rfl ?_
            refine xg_getfield xa_F_bridge_43 (by assumption) rfl ?_
            refine xg_getfield xa_F_bridge_46 (by assumption) rfl ?_
            refine xg_icmp_ge xa_F_bridge_49 (fun _ => ?_) (fun c => absurd (nI_le (by omega) (by omega)) c)
            refine xg_bipush (v := (-2)) xa_F_bridge_90 (by decide) ?_
            refine xg_ireturn xa_F_bridge_92  ?_
            exact kz _ _ ⟨_, _, _, hF, R⟩ hS
          | succ j ih =>
            intro i h1 fl' hi kz hF hS
            obtain ⟨f0, ⟨on', bk', co', wy', fN⟩, -, -⟩ := id hF
            have f1 := fN.1
            have him : i < Mm := by omega
            unfold xfst at kz
            have next : ∀ h2 fl', xb sh i = false → xFc h2 Mn Mm Me Ml cut lk Mh K → xS h h2 0 22 → xG xs LS (d + 6) 64 (84, [some (.ref 0), some (.int (nI x)), some (.int (nI y)), some (.int (nI z)), some (.int s), some (.int r), some (.int (nI i))], []) (h2, ks, fl') Q := by
              intro h2 fl' hn hF2 hS2
              rw [if_neg (by rw [hn]; decide)] at kz
              refine xg_iinc (L' := [_, _, _, _, _, _, _]) xa_F_bridge_84 rfl (xi_inc _) rfl ?_
              refine xg_goto xa_F_bridge_87 ?_
              exact ih (i + 1) h2 _ (by omega) kz hF2 hS2
            refine xg_iload xa_F_bridge_40 rfl ?_
            refine xg_aload_n xa_F_bridge_42 rfl ?_
            refine xg_getfield xa_F_bridge_43 (by assumption) rfl ?_
            refine xg_getfield xa_F_bridge_46 (by assumption) rfl ?_
            refine xg_icmp_ge xa_F_bridge_49 (fun c => absurd c (nI_ge (by omega) (by omega))) (fun _ => ?_)
            refine xg_iload xa_F_bridge_52 rfl ?_
            refine xg_iload xa_F_bridge_54 rfl ?_
            refine xg_callS1 xa_F_bridge_56 ⟨Nat.le_of_ble_eq_true rfl, Nat.le_of_ble_eq_true rfl, rfl⟩ rfl rfl ?_
            refine c_F_holds ?_
            refine xK1_c ?_
            rw [hr i him]
            refine xg_if_eq xa_F_bridge_59 (fun c => next h1 _ ?_ hF hS) (fun c59 => ?_)
            · have hn : ¬ i ∈ p := of_decide_eq_false ((xz0 _).mp c)
              cases hq : xb sh i with
              | false => rfl
              | true => exact absurd ((hbr him).mp hq).1 hn
            · have hin : i ∈ p := of_decide_eq_true (xz1 c59)
              refine xg_aload_n xa_F_bridge_62 rfl ?_
              refine xg_getfield xa_F_bridge_63 (by assumption) rfl ?_
              refine xg_iload xa_F_bridge_66 rfl ?_
              refine xg_iconst (v := 1) xa_F_bridge_68 (by decide) ?_
              refine xg_iload xa_F_bridge_69 rfl ?_
              refine xg_ishl xa_F_bridge_71 rfl ?_
              refine xg_ixor xa_F_bridge_72 rfl ?_
              refine xg_iload_n xa_F_bridge_73 rfl ?_
              refine xg_iload_n xa_F_bridge_74 rfl ?_
              refine xg_callV1 xa_F_bridge_75 ⟨Nat.le_of_ble_eq_true rfl, Nat.le_of_ble_eq_true rfl, rfl⟩ rfl rfl (by assumption) ?_
              refine c_N_bestPath (src := gsr Me) (dst := gds Me) fN hm h7 (by omega) hsd (by omega) (by omega) (fun h4 f4 hN4 hS4 => xK1_d ?_)
              have hF4 := xFc_net hF ⟨_, _, _, _, hN4⟩ (hS4.up (by omega) (by omega))
              obtain ⟨s0, s1⟩ := g_path (on := on') (bk := bk') (co := co') (wy := wy') (s := s ^^^ xbt i) G hx hy hxy
              show xG xs LS (d + 6) 64 (78, _, [.int ((xbp (gsr Me) (gds Me) (gln Ml) Mn Mm on' bk' co' wy' (s ^^^ xbt i) x).2 y)]) _ Q
              generalize (xbp (gsr Me) (gds Me) (gln Ml) Mn Mm on' bk' co' wy' (s ^^^ xbt i) x).2 y = r2 at *
              refine xg_if_ne xa_F_bridge_78 (fun c => next h4 _ ?_ hF4 (hS.tr (hS4.up (by omega) (by omega)))) (fun c => ?_)
              · obtain ⟨q, hq, _⟩ := s1 c
                cases hz2 : xb sh i with
                | false => rfl
                | true => exact absurd ⟨q, hq⟩ ((hbr him).mp hz2).2
              · have hyes : xb sh i = true := (hbr him).mpr ⟨hin, s0 c⟩
                rw [if_pos hyes] at kz
                refine xg_iload xa_F_bridge_81 rfl ?_
                refine xg_ireturn xa_F_bridge_83  ?_
                exact kz _ _ ⟨_, _, _, hF4, R⟩ (hS.tr (hS4.up (by omega) (by omega)))
        refine xg_iconst (v := 0) xa_F_bridge_37 (by decide) ?_
        refine xg_istore (L' := [_, _, _, _, _, _, _]) xa_F_bridge_38 (Nat.le_of_ble_eq_true rfl) rfl ?_
        exact loop Mm 0 h3 _ (by omega) kk hF3 hS3
      · have hl : (xPL Me Mm s x y).length = 0 := by
          apply Classical.byContradiction
          intro q
          obtain ⟨p, hp, _⟩ := hk.1 0 (by omega)
          exact p0 c ⟨p, hp⟩
        rw [if_pos hl] at kk
        refine xg_iconst (v := (-1)) xa_F_bridge_35 (by decide) ?_
        refine xg_ireturn xa_F_bridge_36  ?_
        exact kk _ _ ⟨_, _, _, hF3, R⟩ hS3
theorem c_F_exposed (hC : xCS h Mn Mm Mh Me Ml Mbr Mlk Mt Mg Ma Mb Mw Mwk Msp Mon Mct) (k : ∀ fl', Q (.inl (some (.int (nI (xcnt (xexp Mt Mg Mon) 12))))) (h, ks, fl')) :
    xG xs LS (d + 6) 9 (0, xm_entry xP 9 [.ref 0], []) (h, ks, true) Q := by
  show xG xs LS (d + 6) 9 (0, [some (.ref 0), none, none, none], []) (h, ks, true) Q
  obtain ⟨cut, lk, K, hF, R⟩ := hC
  obtain ⟨f0, ⟨on, bk, co, wy, fN⟩, ⟨fa, f9, fj⟩, fK⟩ := id hF
  obtain ⟨f1, f2, f3, f4, f5, f6, f7, f8⟩ := id fN
  have loop : ∀ j i fl' j3, i + j = 12 → xG xs LS (d + 6) 9 (4, [some (.ref 0), some (.int (nI (xcnt (xexp Mt Mg Mon) i))), some (.int (nI i)), j3], []) (h, ks, fl') Q := by
    intro j
    induction j with
    | zero =>
      intro i fl' j3 hi
      have ei : i = 12 := by omega
      subst ei
      refine xg_iload_n xa_F_exposed_4 rfl ?_
      refine xg_bipush (v := 12) xa_F_exposed_5 (by decide) ?_
      refine xg_icmp_ge xa_F_exposed_7 (fun c7 => ?_) (fun c7 => absurd (by decide) c7)
      refine xg_iload_n xa_F_exposed_48 rfl ?_
      refine xg_ireturn xa_F_exposed_49  ?_
      exact k _
    | succ j ih =>
      intro i fl' j3 hi
      have hi12 : i < 12 := by omega
      have hfi := fj i hi12
      have hci := fK i hi12
      have ex : xcnt (xexp Mt Mg Mon) (i + 1) = if xexp Mt Mg Mon i = true then xcnt (xexp Mt Mg Mon) i + 1 else xcnt (xexp Mt Mg Mon) i := rfl
      have no : ∀ fl' j3, xexp Mt Mg Mon i = false → xG xs LS (d + 6) 9 (42, [some (.ref 0), some (.int (nI (xcnt (xexp Mt Mg Mon) i))), some (.int (nI i)), j3], []) (h, ks, fl') Q := by
        intro fl' j3 q
        rw [if_neg (by rw [q]; decide)] at ex
        refine xg_iinc (L' := [_, _, _, _]) xa_F_exposed_42 rfl (xi_inc _) rfl ?_
        refine xg_goto xa_F_exposed_45 ?_
        rw [← ex]
        exact ih (i + 1) _ _ (by omega)
      unfold xexp at no
      refine xg_iload_n xa_F_exposed_4 rfl ?_
      refine xg_bipush (v := 12) xa_F_exposed_5 (by decide) ?_
      refine xg_icmp_ge xa_F_exposed_7 (fun c => absurd c (show ¬ nI 12 ≤ nI i from nI_ge (by omega) (by omega))) (fun _ => ?_)
      refine xg_aload_n xa_F_exposed_10 rfl ?_
      refine xg_getfield xa_F_exposed_11 (by assumption) rfl ?_
      refine xg_iload_n xa_F_exposed_14 rfl ?_
      refine xg_aald_n xa_F_exposed_15 (by assumption) rfl (by assumption) (by decide) (by assumption) ?_
      refine xg_astore_n (L' := [_, _, _, _]) xa_F_exposed_16 (Nat.le_of_ble_eq_true rfl) rfl ?_
      refine xg_aload_n xa_F_exposed_17 rfl ?_
      refine xg_getfield xa_F_exposed_18 (by assumption) rfl ?_
      refine xg_if_eq xa_F_exposed_21 (fun c => no _ _ (by rw [← R.2.2.1 i hi12, (xz0 _).mp c]; rfl)) (fun c21 => ?_)
      have ht : Mt i = true := by rw [← R.2.2.1 i hi12]; exact xz1 c21
      have hKi := R.2.2.2 i hi12 ht
      rw [hKi] at hci
      refine xg_aload_n xa_F_exposed_24 rfl ?_
      refine xg_getfield xa_F_exposed_25 (by assumption) rfl ?_
      refine xg_if_eq xa_F_exposed_28 (fun c => no _ _ (by have c : xz (Mg i) = 0 := c; rw [(xz0 _).mp c]; simp)) (fun c28 => ?_)
      refine xg_aload_n xa_F_exposed_31 rfl ?_
      refine xg_getfield xa_F_exposed_32 (by assumption) rfl ?_
      refine xg_iconst (v := 2) xa_F_exposed_35 (by decide) ?_
      refine xg_icmp_ne xa_F_exposed_36 (fun c => no _ _ (by have c : ¬ Mon i = 2 := c; rw [decide_eq_false c]; simp)) (fun c36 => ?_)
      have c28 : ¬ xz (Mg i) = 0 := c28
      have c36 : Mon i = 2 := c36
      rw [if_pos (show xexp Mt Mg Mon i = true by unfold xexp; rw [ht, xz1 c28, decide_eq_true c36]; rfl)] at ex
      refine xg_iinc (L' := [_, _, _, _]) xa_F_exposed_39 rfl (xi_inc _) rfl ?_
      refine xg_iinc (L' := [_, _, _, _]) xa_F_exposed_42 rfl (xi_inc _) rfl ?_
      refine xg_goto xa_F_exposed_45 ?_
      rw [← ex]
      exact ih (i + 1) _ _ (by omega)
  refine xg_iconst (v := 0) xa_F_exposed_0 (by decide) ?_
  refine xg_istore_n (L' := [_, _, _, _]) xa_F_exposed_1 (Nat.le_of_ble_eq_true rfl) rfl ?_
  refine xg_iconst (v := 0) xa_F_exposed_2 (by decide) ?_
  refine xg_istore_n (L' := [_, _, _, _]) xa_F_exposed_3 (Nat.le_of_ble_eq_true rfl) rfl ?_
  exact loop 12 0 _ _ (by omega)
theorem r_cnt {m : Nat} {br : Nat → Bool} {c : Int32} (hm : m ≤ 14) (hc : ∀ f, f < 32 → xb c f = (decide (f < m) && br f)) : xcnt (xb c) 14 = xcnt br m := by
  have h1 : ∀ k, k ≤ m → xcnt (xb c) k = xcnt br k := by
    intro k
    induction k with
    | zero => intro _; rfl
    | succ k ih =>
      intro hk
      unfold xcnt
      rw [ih (by omega), hc k (by omega), decide_eq_true (show k < m by omega), Bool.true_and]
  have h2 : ∀ k, m + k ≤ 14 → xcnt (xb c) (m + k) = xcnt br m := by
    intro k
    induction k with
    | zero => intro _; exact h1 m (Nat.le_refl _)
    | succ k ih =>
      intro hk
      show (if xb c (m + k) = true then xcnt (xb c) (m + k) + 1 else xcnt (xb c) (m + k)) = _
      rw [ih (by omega), hc (m + k) (by omega), decide_eq_false (by omega)]
      simp
  have := h2 (14 - m) (by omega)
  rw [show m + (14 - m) = 14 by omega] at this
  exact this
theorem xcnt_congr {p q : Nat → Bool} : ∀ k, (∀ i, i < k → p i = q i) → xcnt p k = xcnt q k := by
  intro k
  induction k with
  | zero => intro _; rfl
  | succ k ih => intro h; unfold xcnt; rw [ih (fun i hi => h i (by omega)), h k (by omega)]
theorem c_F_count {x : Int32} (hm : Mm ≤ 14) (hC : xCS h Mn Mm Mh Me Ml Mbr Mlk Mt Mg Ma Mb Mw Mwk Msp Mon Mct)
    (k1 : cd_count x = 1 → Q (.inr h.length) (h ++ [.inr (4, [])], ks + 6, true))
    (k0 : cd_count x = 0 → ∀ j fl', j ≤ 4 → x = nI j → Q (.inl (some (.int (nI (xcou Mn Mm Mt Mbr Mlk j))))) (h, ks, fl')) :
    xG xs LS (d + 6) 66 (0, xm_entry xP 66 [.ref 0, .int x], []) (h, ks, true) Q := by
  show xG xs LS (d + 6) 66 (0, [some (.ref 0), some (.int x)], []) (h, ks, true) Q
  obtain ⟨cut, lk, K, hF, R⟩ := hC
  obtain ⟨f0, ⟨on, bk, co, wy, fN⟩, ⟨fa, f9, fj⟩, fK⟩ := id hF
  obtain ⟨f1, f2, f3, f4, f5, f6, f7, f8⟩ := id fN
  unfold cd_count at k1 k0
  have t4 : (4 : Int32).toInt = 4 := by decide
  have t0 : (0 : Int32).toInt = 0 := by decide
  refine xg_iload_n xa_F_count_0 rfl ?_
  by_cases cy : x < 0 ∨ ¬ x ≤ 4
  · rw [if_pos cy] at k1
    refine xg_tableOut (t := 73) xa_F_count_1 ?_ (by decide) ?_
    · rw [Int32.lt_iff_toInt_lt, Int32.le_iff_toInt_le, t4, t0] at cy
      omega
    · refine xg_throw xa_F_count_73 (Nat.le_of_ble_eq_true rfl) (by decide +kernel) (by omega) ?_
      exact k1 rfl
  · rw [if_neg cy] at k0
    obtain ⟨j, hj, rfl⟩ := nI_of2 (M := 4) (n := 4) (by decide) (fun z => cy (Or.inl z)) (Classical.not_not.mp (fun z => cy (Or.inr z)))
    have kk := fun fl' => k0 rfl j fl' hj rfl
    clear k0 k1
    have l1 : xlow 14 cut := xlow_up (r_low hm R.1) hm
    have l2 : xlow 14 lk := xlow_up (r_low hm R.2.1) hm
    have cases : j = 0 ∨ j = 1 ∨ j = 2 ∨ j = 3 ∨ j = 4 := by omega
    rcases cases with rfl | rfl | rfl | rfl | rfl
    · refine xg_tableIn (t := 36) (off := 35) xa_F_count_1 (by decide) (by decide) (by decide) ?_
      refine xg_aload_n xa_F_count_36 rfl ?_
      refine xg_getfield xa_F_count_37 (by assumption) rfl ?_
      refine xg_getfield xa_F_count_40 (by assumption) rfl ?_
      refine xg_ireturn xa_F_count_43  ?_
      exact kk _
    · refine xg_tableIn (t := 44) (off := 43) xa_F_count_1 (by decide) (by decide) (by decide) ?_
      refine xg_aload_n xa_F_count_44 rfl ?_
      refine xg_getfield xa_F_count_45 (by assumption) rfl ?_
      refine xg_getfield xa_F_count_48 (by assumption) rfl ?_
      refine xg_ireturn xa_F_count_51  ?_
      exact kk _
    · refine xg_tableIn (t := 52) (off := 51) xa_F_count_1 (by decide) (by decide) (by decide) ?_
      refine xg_aload_n xa_F_count_52 rfl ?_
      refine xg_callV1 xa_F_count_53 ⟨Nat.le_of_ble_eq_true rfl, Nat.le_of_ble_eq_true rfl, rfl⟩ rfl rfl (by assumption) ?_
      refine c_F_connectionsThere hF ?_
      refine xK1_c ?_
      rw [xcnt_congr 12 (fun i hi => R.2.2.1 i hi)]
      refine xg_ireturn xa_F_count_56  ?_
      exact kk _
    · refine xg_tableIn (t := 57) (off := 56) xa_F_count_1 (by decide) (by decide) (by decide) ?_
      refine xg_aload_n xa_F_count_57 rfl ?_
      refine xg_getfield xa_F_count_58 (by assumption) rfl ?_
      refine xg_callS1 xa_F_count_61 ⟨Nat.le_of_ble_eq_true rfl, Nat.le_of_ble_eq_true rfl, rfl⟩ rfl rfl ?_
      refine c_J_bitCount l1 ?_
      refine xK1_c ?_
      rw [r_cnt hm R.1]
      refine xg_ireturn xa_F_count_64  ?_
      exact kk _
    · refine xg_tableIn (t := 65) (off := 64) xa_F_count_1 (by decide) (by decide) (by decide) ?_
      refine xg_aload_n xa_F_count_65 rfl ?_
      refine xg_getfield xa_F_count_66 (by assumption) rfl ?_
      refine xg_callS1 xa_F_count_69 ⟨Nat.le_of_ble_eq_true rfl, Nat.le_of_ble_eq_true rfl, rfl⟩ rfl rfl ?_
      refine c_J_bitCount l2 ?_
      refine xK1_c ?_
      rw [r_cnt hm R.2.1]
      refine xg_ireturn xa_F_count_72  ?_
      exact kk _
end XW2
