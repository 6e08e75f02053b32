/-! 40.pub2: the model's calls: cut, mend, hold, clock, move, about, user, fits, bridge, exposed, count. -/
theorem xa_M_cut_0 : xm_at xP 90 0 = some (0, .aload_n 0, 0, 0, 0, 0) := by decide +kernel
theorem xa_M_cut_1 : xm_at xP 90 1 = some (1, .aload_n 0, 0, 0, 0, 0) := by decide +kernel
theorem xa_M_cut_2 : xm_at xP 90 2 = some (2, .iload_n 1, 0, 0, 0, 0) := by decide +kernel
theorem xa_M_cut_3 : xm_at xP 90 3 = some (3, .invokevirtual 137, 89, 2, 3, 0) := by decide +kernel
theorem xa_M_cut_6 : xm_at xP 90 6 = some (6, .ifCond .eq 7, 13, 0, 0, 0) := by decide +kernel
theorem xa_M_cut_9 : xm_at xP 90 9 = some (9, .iconst 1, 0, 0, 0, 0) := by decide +kernel
theorem xa_M_cut_10 : xm_at xP 90 10 = some (10, .goto 17, 27, 0, 0, 0) := by decide +kernel
theorem xa_M_cut_13 : xm_at xP 90 13 = some (13, .aload_n 0, 0, 0, 0, 0) := by decide +kernel
theorem xa_M_cut_14 : xm_at xP 90 14 = some (14, .getfield 20, 3, 5, 0, 0) := by decide +kernel
theorem xa_M_cut_17 : xm_at xP 90 17 = some (17, .iload_n 1, 0, 0, 0, 0) := by decide +kernel
theorem xa_M_cut_18 : xm_at xP 90 18 = some (18, .baload, 0, 0, 0, 0) := by decide +kernel
theorem xa_M_cut_19 : xm_at xP 90 19 = some (19, .ifCond .eq 7, 26, 0, 0, 0) := by decide +kernel
theorem xa_M_cut_22 : xm_at xP 90 22 = some (22, .iconst 2, 0, 0, 0, 0) := by decide +kernel
theorem xa_M_cut_23 : xm_at xP 90 23 = some (23, .goto 4, 27, 0, 0, 0) := by decide +kernel
theorem xa_M_cut_26 : xm_at xP 90 26 = some (26, .iconst 0, 0, 0, 0, 0) := by decide +kernel
theorem xa_M_cut_27 : xm_at xP 90 27 = some (27, .putfield 66, 3, 0, 0, 0) := by decide +kernel
theorem xa_M_cut_30 : xm_at xP 90 30 = some (30, .aload_n 0, 0, 0, 0, 0) := by decide +kernel
theorem xa_M_cut_31 : xm_at xP 90 31 = some (31, .getfield 66, 3, 0, 0, 0) := by decide +kernel
theorem xa_M_cut_34 : xm_at xP 90 34 = some (34, .ifCond .le 4, 38, 0, 0, 0) := by decide +kernel
theorem xa_M_cut_37 : xm_at xP 90 37 = some (37, .return_, 0, 0, 0, 0) := by decide +kernel
theorem xa_M_cut_38 : xm_at xP 90 38 = some (38, .aload_n 0, 0, 0, 0, 0) := by decide +kernel
theorem xa_M_cut_39 : xm_at xP 90 39 = some (39, .getfield 20, 3, 5, 0, 0) := by decide +kernel
theorem xa_M_cut_42 : xm_at xP 90 42 = some (42, .iload_n 1, 0, 0, 0, 0) := by decide +kernel
theorem xa_M_cut_43 : xm_at xP 90 43 = some (43, .iconst 1, 0, 0, 0, 0) := by decide +kernel
theorem xa_M_cut_44 : xm_at xP 90 44 = some (44, .bastore, 0, 0, 0, 0) := by decide +kernel
theorem xa_M_cut_45 : xm_at xP 90 45 = some (45, .aload_n 0, 0, 0, 0, 0) := by decide +kernel
theorem xa_M_cut_46 : xm_at xP 90 46 = some (46, .invokevirtual 143, 91, 1, 3, 0) := by decide +kernel
theorem xa_M_cut_49 : xm_at xP 90 49 = some (49, .return_, 0, 0, 0, 0) := by decide +kernel
theorem xa_M_mend_0 : xm_at xP 93 0 = some (0, .aload_n 0, 0, 0, 0, 0) := by decide +kernel
theorem xa_M_mend_1 : xm_at xP 93 1 = some (1, .aload_n 0, 0, 0, 0, 0) := by decide +kernel
theorem xa_M_mend_2 : xm_at xP 93 2 = some (2, .iload_n 1, 0, 0, 0, 0) := by decide +kernel
theorem xa_M_mend_3 : xm_at xP 93 3 = some (3, .invokevirtual 137, 89, 2, 3, 0) := by decide +kernel
theorem xa_M_mend_6 : xm_at xP 93 6 = some (6, .ifCond .eq 7, 13, 0, 0, 0) := by decide +kernel
theorem xa_M_mend_9 : xm_at xP 93 9 = some (9, .iconst 1, 0, 0, 0, 0) := by decide +kernel
theorem xa_M_mend_10 : xm_at xP 93 10 = some (10, .goto 17, 27, 0, 0, 0) := by decide +kernel
theorem xa_M_mend_13 : xm_at xP 93 13 = some (13, .aload_n 0, 0, 0, 0, 0) := by decide +kernel
theorem xa_M_mend_14 : xm_at xP 93 14 = some (14, .getfield 20, 3, 5, 0, 0) := by decide +kernel
theorem xa_M_mend_17 : xm_at xP 93 17 = some (17, .iload_n 1, 0, 0, 0, 0) := by decide +kernel
theorem xa_M_mend_18 : xm_at xP 93 18 = some (18, .baload, 0, 0, 0, 0) := by decide +kernel
theorem xa_M_mend_19 : xm_at xP 93 19 = some (19, .ifCond .ne 7, 26, 0, 0, 0) := by decide +kernel
theorem xa_M_mend_22 : xm_at xP 93 22 = some (22, .iconst 2, 0, 0, 0, 0) := by decide +kernel
theorem xa_M_mend_23 : xm_at xP 93 23 = some (23, .goto 4, 27, 0, 0, 0) := by decide +kernel
theorem xa_M_mend_26 : xm_at xP 93 26 = some (26, .iconst 0, 0, 0, 0, 0) := by decide +kernel
theorem xa_M_mend_27 : xm_at xP 93 27 = some (27, .putfield 66, 3, 0, 0, 0) := by decide +kernel
theorem xa_M_mend_30 : xm_at xP 93 30 = some (30, .aload_n 0, 0, 0, 0, 0) := by decide +kernel
theorem xa_M_mend_31 : xm_at xP 93 31 = some (31, .getfield 66, 3, 0, 0, 0) := by decide +kernel
theorem xa_M_mend_34 : xm_at xP 93 34 = some (34, .ifCond .le 4, 38, 0, 0, 0) := by decide +kernel
theorem xa_M_mend_37 : xm_at xP 93 37 = some (37, .return_, 0, 0, 0, 0) := by decide +kernel
theorem xa_M_mend_38 : xm_at xP 93 38 = some (38, .aload_n 0, 0, 0, 0, 0) := by decide +kernel
theorem xa_M_mend_39 : xm_at xP 93 39 = some (39, .getfield 20, 3, 5, 0, 0) := by decide +kernel
theorem xa_M_mend_42 : xm_at xP 93 42 = some (42, .iload_n 1, 0, 0, 0, 0) := by decide +kernel
theorem xa_M_mend_43 : xm_at xP 93 43 = some (43, .iconst 0, 0, 0, 0, 0) := by decide +kernel
theorem xa_M_mend_44 : xm_at xP 93 44 = some (44, .bastore, 0, 0, 0, 0) := by decide +kernel
theorem xa_M_mend_45 : xm_at xP 93 45 = some (45, .aload_n 0, 0, 0, 0, 0) := by decide +kernel
theorem xa_M_mend_46 : xm_at xP 93 46 = some (46, .invokevirtual 143, 91, 1, 3, 0) := by decide +kernel
theorem xa_M_mend_49 : xm_at xP 93 49 = some (49, .return_, 0, 0, 0, 0) := by decide +kernel
theorem xa_M_hold_0 : xm_at xP 94 0 = some (0, .aload_n 0, 0, 0, 0, 0) := by decide +kernel
theorem xa_M_hold_1 : xm_at xP 94 1 = some (1, .iload_n 1, 0, 0, 0, 0) := by decide +kernel
theorem xa_M_hold_2 : xm_at xP 94 2 = some (2, .ifCond .lt 10, 12, 0, 0, 0) := by decide +kernel
theorem xa_M_hold_5 : xm_at xP 94 5 = some (5, .iload_n 1, 0, 0, 0, 0) := by decide +kernel
theorem xa_M_hold_6 : xm_at xP 94 6 = some (6, .sipush 1000, 0, 0, 0, 0) := by decide +kernel
theorem xa_M_hold_9 : xm_at xP 94 9 = some (9, .if_icmp .le 7, 16, 0, 0, 0) := by decide +kernel
theorem xa_M_hold_12 : xm_at xP 94 12 = some (12, .iconst 1, 0, 0, 0, 0) := by decide +kernel
theorem xa_M_hold_13 : xm_at xP 94 13 = some (13, .goto 4, 17, 0, 0, 0) := by decide +kernel
theorem xa_M_hold_16 : xm_at xP 94 16 = some (16, .iconst 0, 0, 0, 0, 0) := by decide +kernel
theorem xa_M_hold_17 : xm_at xP 94 17 = some (17, .putfield 66, 3, 0, 0, 0) := by decide +kernel
theorem xa_M_hold_20 : xm_at xP 94 20 = some (20, .aload_n 0, 0, 0, 0, 0) := by decide +kernel
theorem xa_M_hold_21 : xm_at xP 94 21 = some (21, .getfield 66, 3, 0, 0, 0) := by decide +kernel
theorem xa_M_hold_24 : xm_at xP 94 24 = some (24, .ifCond .le 4, 28, 0, 0, 0) := by decide +kernel
theorem xa_M_hold_27 : xm_at xP 94 27 = some (27, .return_, 0, 0, 0, 0) := by decide +kernel
theorem xa_M_hold_28 : xm_at xP 94 28 = some (28, .aload_n 0, 0, 0, 0, 0) := by decide +kernel
theorem xa_M_hold_29 : xm_at xP 94 29 = some (29, .iload_n 1, 0, 0, 0, 0) := by decide +kernel
theorem xa_M_hold_30 : xm_at xP 94 30 = some (30, .putfield 76, 3, 7, 0, 0) := by decide +kernel
theorem xa_M_hold_33 : xm_at xP 94 33 = some (33, .aload_n 0, 0, 0, 0, 0) := by decide +kernel
theorem xa_M_hold_34 : xm_at xP 94 34 = some (34, .invokevirtual 143, 91, 1, 3, 0) := by decide +kernel
theorem xa_M_hold_37 : xm_at xP 94 37 = some (37, .return_, 0, 0, 0, 0) := by decide +kernel
theorem xa_M_clock_0 : xm_at xP 95 0 = some (0, .aload_n 0, 0, 0, 0, 0) := by decide +kernel
theorem xa_M_clock_1 : xm_at xP 95 1 = some (1, .iconst 0, 0, 0, 0, 0) := by decide +kernel
theorem xa_M_clock_2 : xm_at xP 95 2 = some (2, .putfield 66, 3, 0, 0, 0) := by decide +kernel
theorem xa_M_clock_5 : xm_at xP 95 5 = some (5, .iconst 0, 0, 0, 0, 0) := by decide +kernel
theorem xa_M_clock_6 : xm_at xP 95 6 = some (6, .istore_n 1, 0, 0, 0, 0) := by decide +kernel
theorem xa_M_clock_7 : xm_at xP 95 7 = some (7, .iload_n 1, 0, 0, 0, 0) := by decide +kernel
theorem xa_M_clock_8 : xm_at xP 95 8 = some (8, .bipush 12, 0, 0, 0, 0) := by decide +kernel
theorem xa_M_clock_10 : xm_at xP 95 10 = some (10, .if_icmp .ge 63, 73, 0, 0, 0) := by decide +kernel
theorem xa_M_clock_13 : xm_at xP 95 13 = some (13, .aload_n 0, 0, 0, 0, 0) := by decide +kernel
theorem xa_M_clock_14 : xm_at xP 95 14 = some (14, .getfield 51, 3, 16, 0, 0) := by decide +kernel
theorem xa_M_clock_17 : xm_at xP 95 17 = some (17, .iload_n 1, 0, 0, 0, 0) := by decide +kernel
theorem xa_M_clock_18 : xm_at xP 95 18 = some (18, .aload_n 0, 0, 0, 0, 0) := by decide +kernel
theorem xa_M_clock_19 : xm_at xP 95 19 = some (19, .getfield 27, 3, 8, 0, 0) := by decide +kernel
theorem xa_M_clock_22 : xm_at xP 95 22 = some (22, .iload_n 1, 0, 0, 0, 0) := by decide +kernel
theorem xa_M_clock_23 : xm_at xP 95 23 = some (23, .baload, 0, 0, 0, 0) := by decide +kernel
theorem xa_M_clock_24 : xm_at xP 95 24 = some (24, .ifCond .eq 36, 60, 0, 0, 0) := by decide +kernel
theorem xa_M_clock_27 : xm_at xP 95 27 = some (27, .aload_n 0, 0, 0, 0, 0) := by decide +kernel
theorem xa_M_clock_28 : xm_at xP 95 28 = some (28, .getfield 48, 3, 15, 0, 0) := by decide +kernel
theorem xa_M_clock_31 : xm_at xP 95 31 = some (31, .iload_n 1, 0, 0, 0, 0) := by decide +kernel
theorem xa_M_clock_32 : xm_at xP 95 32 = some (32, .iaload, 0, 0, 0, 0) := by decide +kernel
theorem xa_M_clock_33 : xm_at xP 95 33 = some (33, .ifCond .eq 27, 60, 0, 0, 0) := by decide +kernel
theorem xa_M_clock_36 : xm_at xP 95 36 = some (36, .aload_n 0, 0, 0, 0, 0) := by decide +kernel
theorem xa_M_clock_37 : xm_at xP 95 37 = some (37, .aload_n 0, 0, 0, 0, 0) := by decide +kernel
theorem xa_M_clock_38 : xm_at xP 95 38 = some (38, .getfield 42, 3, 13, 0, 0) := by decide +kernel
theorem xa_M_clock_41 : xm_at xP 95 41 = some (41, .iload_n 1, 0, 0, 0, 0) := by decide +kernel
theorem xa_M_clock_42 : xm_at xP 95 42 = some (42, .iaload, 0, 0, 0, 0) := by decide +kernel
theorem xa_M_clock_43 : xm_at xP 95 43 = some (43, .invokevirtual 140, 92, 2, 3, 0) := by decide +kernel
theorem xa_M_clock_46 : xm_at xP 95 46 = some (46, .ifCond .eq 14, 60, 0, 0, 0) := by decide +kernel
theorem xa_M_clock_49 : xm_at xP 95 49 = some (49, .aload_n 0, 0, 0, 0, 0) := by decide +kernel
theorem xa_M_clock_50 : xm_at xP 95 50 = some (50, .getfield 51, 3, 16, 0, 0) := by decide +kernel
theorem xa_M_clock_53 : xm_at xP 95 53 = some (53, .iload_n 1, 0, 0, 0, 0) := by decide +kernel
theorem xa_M_clock_54 : xm_at xP 95 54 = some (54, .iaload, 0, 0, 0, 0) := by decide +kernel
theorem xa_M_clock_55 : xm_at xP 95 55 = some (55, .iconst 1, 0, 0, 0, 0) := by decide +kernel
theorem xa_M_clock_56 : xm_at xP 95 56 = some (56, .iadd, 0, 0, 0, 0) := by decide +kernel
theorem xa_M_clock_57 : xm_at xP 95 57 = some (57, .goto 9, 66, 0, 0, 0) := by decide +kernel
theorem xa_M_clock_60 : xm_at xP 95 60 = some (60, .aload_n 0, 0, 0, 0, 0) := by decide +kernel
theorem xa_M_clock_61 : xm_at xP 95 61 = some (61, .getfield 51, 3, 16, 0, 0) := by decide +kernel
theorem xa_M_clock_64 : xm_at xP 95 64 = some (64, .iload_n 1, 0, 0, 0, 0) := by decide +kernel
theorem xa_M_clock_65 : xm_at xP 95 65 = some (65, .iaload, 0, 0, 0, 0) := by decide +kernel
theorem xa_M_clock_66 : xm_at xP 95 66 = some (66, .iastore, 0, 0, 0, 0) := by decide +kernel
theorem xa_M_clock_67 : xm_at xP 95 67 = some (67, .iinc 1 1, 0, 0, 0, 0) := by decide +kernel
theorem xa_M_clock_70 : xm_at xP 95 70 = some (70, .goto (-63), 7, 0, 0, 0) := by decide +kernel
theorem xa_M_clock_73 : xm_at xP 95 73 = some (73, .aload_n 0, 0, 0, 0, 0) := by decide +kernel
theorem xa_M_clock_74 : xm_at xP 95 74 = some (74, .invokevirtual 143, 91, 1, 3, 0) := by decide +kernel
theorem xa_M_clock_77 : xm_at xP 95 77 = some (77, .return_, 0, 0, 0, 0) := by decide +kernel
theorem xa_M_move_0 : xm_at xP 96 0 = some (0, .aload_n 0, 0, 0, 0, 0) := by decide +kernel
theorem xa_M_move_1 : xm_at xP 96 1 = some (1, .aload_n 0, 0, 0, 0, 0) := by decide +kernel
theorem xa_M_move_2 : xm_at xP 96 2 = some (2, .iload_n 1, 0, 0, 0, 0) := by decide +kernel
theorem xa_M_move_3 : xm_at xP 96 3 = some (3, .invokevirtual 134, 87, 2, 3, 0) := by decide +kernel
theorem xa_M_move_6 : xm_at xP 96 6 = some (6, .ifCond .eq 7, 13, 0, 0, 0) := by decide +kernel
theorem xa_M_move_9 : xm_at xP 96 9 = some (9, .iconst 1, 0, 0, 0, 0) := by decide +kernel
theorem xa_M_move_10 : xm_at xP 96 10 = some (10, .goto 4, 14, 0, 0, 0) := by decide +kernel
theorem xa_M_move_13 : xm_at xP 96 13 = some (13, .iconst 0, 0, 0, 0, 0) := by decide +kernel
theorem xa_M_move_14 : xm_at xP 96 14 = some (14, .putfield 66, 3, 0, 0, 0) := by decide +kernel
theorem xa_M_move_17 : xm_at xP 96 17 = some (17, .aload_n 0, 0, 0, 0, 0) := by decide +kernel
theorem xa_M_move_18 : xm_at xP 96 18 = some (18, .getfield 66, 3, 0, 0, 0) := by decide +kernel
theorem xa_M_move_21 : xm_at xP 96 21 = some (21, .ifCond .le 5, 26, 0, 0, 0) := by decide +kernel
theorem xa_M_move_24 : xm_at xP 96 24 = some (24, .iconst 0, 0, 0, 0, 0) := by decide +kernel
theorem xa_M_move_25 : xm_at xP 96 25 = some (25, .ireturn, 0, 0, 0, 0) := by decide +kernel
theorem xa_M_move_26 : xm_at xP 96 26 = some (26, .aload_n 0, 0, 0, 0, 0) := by decide +kernel
theorem xa_M_move_27 : xm_at xP 96 27 = some (27, .getfield 39, 3, 12, 0, 0) := by decide +kernel
theorem xa_M_move_30 : xm_at xP 96 30 = some (30, .iload_n 1, 0, 0, 0, 0) := by decide +kernel
theorem xa_M_move_31 : xm_at xP 96 31 = some (31, .iaload, 0, 0, 0, 0) := by decide +kernel
theorem xa_M_move_32 : xm_at xP 96 32 = some (32, .iconst 1, 0, 0, 0, 0) := by decide +kernel
theorem xa_M_move_33 : xm_at xP 96 33 = some (33, .iadd, 0, 0, 0, 0) := by decide +kernel
theorem xa_M_move_34 : xm_at xP 96 34 = some (34, .istore_n 2, 0, 0, 0, 0) := by decide +kernel
theorem xa_M_move_35 : xm_at xP 96 35 = some (35, .iload_n 2, 0, 0, 0, 0) := by decide +kernel
theorem xa_M_move_36 : xm_at xP 96 36 = some (36, .iconst 4, 0, 0, 0, 0) := by decide +kernel
theorem xa_M_move_37 : xm_at xP 96 37 = some (37, .if_icmp .ge 43, 80, 0, 0, 0) := by decide +kernel
theorem xa_M_move_40 : xm_at xP 96 40 = some (40, .aload_n 0, 0, 0, 0, 0) := by decide +kernel
theorem xa_M_move_41 : xm_at xP 96 41 = some (41, .iload_n 2, 0, 0, 0, 0) := by decide +kernel
theorem xa_M_move_42 : xm_at xP 96 42 = some (42, .aload_n 0, 0, 0, 0, 0) := by decide +kernel
theorem xa_M_move_43 : xm_at xP 96 43 = some (43, .getfield 33, 3, 10, 0, 0) := by decide +kernel
theorem xa_M_move_46 : xm_at xP 96 46 = some (46, .iload_n 1, 0, 0, 0, 0) := by decide +kernel
theorem xa_M_move_47 : xm_at xP 96 47 = some (47, .iaload, 0, 0, 0, 0) := by decide +kernel
theorem xa_M_move_48 : xm_at xP 96 48 = some (48, .aload_n 0, 0, 0, 0, 0) := by decide +kernel
theorem xa_M_move_49 : xm_at xP 96 49 = some (49, .getfield 36, 3, 11, 0, 0) := by decide +kernel
theorem xa_M_move_52 : xm_at xP 96 52 = some (52, .iload_n 1, 0, 0, 0, 0) := by decide +kernel
theorem xa_M_move_53 : xm_at xP 96 53 = some (53, .iaload, 0, 0, 0, 0) := by decide +kernel
theorem xa_M_move_54 : xm_at xP 96 54 = some (54, .aload_n 0, 0, 0, 0, 0) := by decide +kernel
theorem xa_M_move_55 : xm_at xP 96 55 = some (55, .getfield 30, 3, 9, 0, 0) := by decide +kernel
theorem xa_M_move_58 : xm_at xP 96 58 = some (58, .iload_n 1, 0, 0, 0, 0) := by decide +kernel
theorem xa_M_move_59 : xm_at xP 96 59 = some (59, .baload, 0, 0, 0, 0) := by decide +kernel
theorem xa_M_move_60 : xm_at xP 96 60 = some (60, .invokevirtual 126, 75, 5, 3, 0) := by decide +kernel
theorem xa_M_move_63 : xm_at xP 96 63 = some (63, .ifCond .eq 11, 74, 0, 0, 0) := by decide +kernel
theorem xa_M_move_66 : xm_at xP 96 66 = some (66, .aload_n 0, 0, 0, 0, 0) := by decide +kernel
theorem xa_M_move_67 : xm_at xP 96 67 = some (67, .iload_n 1, 0, 0, 0, 0) := by decide +kernel
theorem xa_M_move_68 : xm_at xP 96 68 = some (68, .iload_n 2, 0, 0, 0, 0) := by decide +kernel
theorem xa_M_move_69 : xm_at xP 96 69 = some (69, .invokevirtual 130, 85, 3, 3, 0) := by decide +kernel
theorem xa_M_move_72 : xm_at xP 96 72 = some (72, .iload_n 2, 0, 0, 0, 0) := by decide +kernel
theorem xa_M_move_73 : xm_at xP 96 73 = some (73, .ireturn, 0, 0, 0, 0) := by decide +kernel
theorem xa_M_move_74 : xm_at xP 96 74 = some (74, .iinc 2 1, 0, 0, 0, 0) := by decide +kernel
theorem xa_M_move_77 : xm_at xP 96 77 = some (77, .goto (-42), 35, 0, 0, 0) := by decide +kernel
theorem xa_M_move_80 : xm_at xP 96 80 = some (80, .iconst (-1), 0, 0, 0, 0) := by decide +kernel
theorem xa_M_move_81 : xm_at xP 96 81 = some (81, .ireturn, 0, 0, 0, 0) := by decide +kernel
theorem xa_M_about_0 : xm_at xP 98 0 = some (0, .aload_n 0, 0, 0, 0, 0) := by decide +kernel
theorem xa_M_about_1 : xm_at xP 98 1 = some (1, .aload_n 0, 0, 0, 0, 0) := by decide +kernel
theorem xa_M_about_2 : xm_at xP 98 2 = some (2, .iload_n 1, 0, 0, 0, 0) := by decide +kernel
theorem xa_M_about_3 : xm_at xP 98 3 = some (3, .invokevirtual 134, 87, 2, 3, 0) := by decide +kernel
theorem xa_M_about_6 : xm_at xP 98 6 = some (6, .ifCond .eq 7, 13, 0, 0, 0) := by decide +kernel
theorem xa_M_about_9 : xm_at xP 98 9 = some (9, .iconst 1, 0, 0, 0, 0) := by decide +kernel
theorem xa_M_about_10 : xm_at xP 98 10 = some (10, .goto 18, 28, 0, 0, 0) := by decide +kernel
theorem xa_M_about_13 : xm_at xP 98 13 = some (13, .iload_n 2, 0, 0, 0, 0) := by decide +kernel
theorem xa_M_about_14 : xm_at xP 98 14 = some (14, .ifCond .lt 9, 23, 0, 0, 0) := by decide +kernel
theorem xa_M_about_17 : xm_at xP 98 17 = some (17, .iload_n 2, 0, 0, 0, 0) := by decide +kernel
theorem xa_M_about_18 : xm_at xP 98 18 = some (18, .bipush 6, 0, 0, 0, 0) := by decide +kernel
theorem xa_M_about_20 : xm_at xP 98 20 = some (20, .if_icmp .le 7, 27, 0, 0, 0) := by decide +kernel
theorem xa_M_about_23 : xm_at xP 98 23 = some (23, .iconst 2, 0, 0, 0, 0) := by decide +kernel
theorem xa_M_about_24 : xm_at xP 98 24 = some (24, .goto 4, 28, 0, 0, 0) := by decide +kernel
theorem xa_M_about_27 : xm_at xP 98 27 = some (27, .iconst 0, 0, 0, 0, 0) := by decide +kernel
theorem xa_M_about_28 : xm_at xP 98 28 = some (28, .putfield 66, 3, 0, 0, 0) := by decide +kernel
theorem xa_M_about_31 : xm_at xP 98 31 = some (31, .aload_n 0, 0, 0, 0, 0) := by decide +kernel
theorem xa_M_about_32 : xm_at xP 98 32 = some (32, .getfield 66, 3, 0, 0, 0) := by decide +kernel
theorem xa_M_about_35 : xm_at xP 98 35 = some (35, .ifCond .le 5, 40, 0, 0, 0) := by decide +kernel
theorem xa_M_about_38 : xm_at xP 98 38 = some (38, .iconst 0, 0, 0, 0, 0) := by decide +kernel
theorem xa_M_about_39 : xm_at xP 98 39 = some (39, .ireturn, 0, 0, 0, 0) := by decide +kernel
theorem xa_M_about_40 : xm_at xP 98 40 = some (40, .iload_n 2, 0, 0, 0, 0) := by decide +kernel
theorem xa_M_about_41 : xm_at xP 98 41 = some (41, .tableswitch 102 0 5 #[39, 46, 53, 60, 71, 95], 0, 0, 39, 0) := by decide +kernel
theorem xa_M_about_80 : xm_at xP 98 80 = some (80, .aload_n 0, 0, 0, 0, 0) := by decide +kernel
theorem xa_M_about_81 : xm_at xP 98 81 = some (81, .getfield 39, 3, 12, 0, 0) := by decide +kernel
theorem xa_M_about_84 : xm_at xP 98 84 = some (84, .iload_n 1, 0, 0, 0, 0) := by decide +kernel
theorem xa_M_about_85 : xm_at xP 98 85 = some (85, .iaload, 0, 0, 0, 0) := by decide +kernel
theorem xa_M_about_86 : xm_at xP 98 86 = some (86, .ireturn, 0, 0, 0, 0) := by decide +kernel
theorem xa_M_about_87 : xm_at xP 98 87 = some (87, .aload_n 0, 0, 0, 0, 0) := by decide +kernel
theorem xa_M_about_88 : xm_at xP 98 88 = some (88, .getfield 33, 3, 10, 0, 0) := by decide +kernel
theorem xa_M_about_91 : xm_at xP 98 91 = some (91, .iload_n 1, 0, 0, 0, 0) := by decide +kernel
theorem xa_M_about_92 : xm_at xP 98 92 = some (92, .iaload, 0, 0, 0, 0) := by decide +kernel
theorem xa_M_about_93 : xm_at xP 98 93 = some (93, .ireturn, 0, 0, 0, 0) := by decide +kernel
theorem xa_M_about_94 : xm_at xP 98 94 = some (94, .aload_n 0, 0, 0, 0, 0) := by decide +kernel
theorem xa_M_about_95 : xm_at xP 98 95 = some (95, .getfield 36, 3, 11, 0, 0) := by decide +kernel
theorem xa_M_about_98 : xm_at xP 98 98 = some (98, .iload_n 1, 0, 0, 0, 0) := by decide +kernel
theorem xa_M_about_99 : xm_at xP 98 99 = some (99, .iaload, 0, 0, 0, 0) := by decide +kernel
theorem xa_M_about_100 : xm_at xP 98 100 = some (100, .ireturn, 0, 0, 0, 0) := by decide +kernel
theorem xa_M_about_101 : xm_at xP 98 101 = some (101, .aload_n 0, 0, 0, 0, 0) := by decide +kernel
theorem xa_M_about_102 : xm_at xP 98 102 = some (102, .aload_n 0, 0, 0, 0, 0) := by decide +kernel
theorem xa_M_about_103 : xm_at xP 98 103 = some (103, .getfield 42, 3, 13, 0, 0) := by decide +kernel
theorem xa_M_about_106 : xm_at xP 98 106 = some (106, .iload_n 1, 0, 0, 0, 0) := by decide +kernel
theorem xa_M_about_107 : xm_at xP 98 107 = some (107, .iaload, 0, 0, 0, 0) := by decide +kernel
theorem xa_M_about_108 : xm_at xP 98 108 = some (108, .invokevirtual 89, 81, 2, 3, 0) := by decide +kernel
theorem xa_M_about_111 : xm_at xP 98 111 = some (111, .ireturn, 0, 0, 0, 0) := by decide +kernel
theorem xa_M_about_112 : xm_at xP 98 112 = some (112, .aload_n 0, 0, 0, 0, 0) := by decide +kernel
theorem xa_M_about_113 : xm_at xP 98 113 = some (113, .getfield 30, 3, 9, 0, 0) := by decide +kernel
theorem xa_M_about_116 : xm_at xP 98 116 = some (116, .iload_n 1, 0, 0, 0, 0) := by decide +kernel
theorem xa_M_about_117 : xm_at xP 98 117 = some (117, .baload, 0, 0, 0, 0) := by decide +kernel
theorem xa_M_about_118 : xm_at xP 98 118 = some (118, .ifCond .eq 16, 134, 0, 0, 0) := by decide +kernel
theorem xa_M_about_121 : xm_at xP 98 121 = some (121, .aload_n 0, 0, 0, 0, 0) := by decide +kernel
theorem xa_M_about_122 : xm_at xP 98 122 = some (122, .aload_n 0, 0, 0, 0, 0) := by decide +kernel
theorem xa_M_about_123 : xm_at xP 98 123 = some (123, .getfield 45, 3, 14, 0, 0) := by decide +kernel
theorem xa_M_about_126 : xm_at xP 98 126 = some (126, .iload_n 1, 0, 0, 0, 0) := by decide +kernel
theorem xa_M_about_127 : xm_at xP 98 127 = some (127, .iaload, 0, 0, 0, 0) := by decide +kernel
theorem xa_M_about_128 : xm_at xP 98 128 = some (128, .invokevirtual 89, 81, 2, 3, 0) := by decide +kernel
theorem xa_M_about_131 : xm_at xP 98 131 = some (131, .goto 4, 135, 0, 0, 0) := by decide +kernel
theorem xa_M_about_134 : xm_at xP 98 134 = some (134, .iconst (-1), 0, 0, 0, 0) := by decide +kernel
theorem xa_M_about_135 : xm_at xP 98 135 = some (135, .ireturn, 0, 0, 0, 0) := by decide +kernel
theorem xa_M_about_136 : xm_at xP 98 136 = some (136, .aload_n 0, 0, 0, 0, 0) := by decide +kernel
theorem xa_M_about_137 : xm_at xP 98 137 = some (137, .getfield 48, 3, 15, 0, 0) := by decide +kernel
theorem xa_M_about_140 : xm_at xP 98 140 = some (140, .iload_n 1, 0, 0, 0, 0) := by decide +kernel
theorem xa_M_about_141 : xm_at xP 98 141 = some (141, .iaload, 0, 0, 0, 0) := by decide +kernel
theorem xa_M_about_142 : xm_at xP 98 142 = some (142, .ireturn, 0, 0, 0, 0) := by decide +kernel
theorem xa_M_about_143 : xm_at xP 98 143 = some (143, .aload_n 0, 0, 0, 0, 0) := by decide +kernel
theorem xa_M_about_144 : xm_at xP 98 144 = some (144, .getfield 51, 3, 16, 0, 0) := by decide +kernel
theorem xa_M_about_147 : xm_at xP 98 147 = some (147, .iload_n 1, 0, 0, 0, 0) := by decide +kernel
theorem xa_M_about_148 : xm_at xP 98 148 = some (148, .iaload, 0, 0, 0, 0) := by decide +kernel
theorem xa_M_about_149 : xm_at xP 98 149 = some (149, .ireturn, 0, 0, 0, 0) := by decide +kernel
theorem xa_M_user_0 : xm_at xP 99 0 = some (0, .aload_n 0, 0, 0, 0, 0) := by decide +kernel
theorem xa_M_user_1 : xm_at xP 99 1 = some (1, .aload_n 0, 0, 0, 0, 0) := by decide +kernel
theorem xa_M_user_2 : xm_at xP 99 2 = some (2, .iload_n 1, 0, 0, 0, 0) := by decide +kernel
theorem xa_M_user_3 : xm_at xP 99 3 = some (3, .invokevirtual 137, 89, 2, 3, 0) := by decide +kernel
theorem xa_M_user_6 : xm_at xP 99 6 = some (6, .ifCond .ne 12, 18, 0, 0, 0) := by decide +kernel
theorem xa_M_user_9 : xm_at xP 99 9 = some (9, .iload_n 2, 0, 0, 0, 0) := by decide +kernel
theorem xa_M_user_10 : xm_at xP 99 10 = some (10, .ifCond .lt 8, 18, 0, 0, 0) := by decide +kernel
theorem xa_M_user_13 : xm_at xP 99 13 = some (13, .iload_n 2, 0, 0, 0, 0) := by decide +kernel
theorem xa_M_user_14 : xm_at xP 99 14 = some (14, .iconst 3, 0, 0, 0, 0) := by decide +kernel
theorem xa_M_user_15 : xm_at xP 99 15 = some (15, .if_icmp .le 7, 22, 0, 0, 0) := by decide +kernel
theorem xa_M_user_18 : xm_at xP 99 18 = some (18, .iconst 1, 0, 0, 0, 0) := by decide +kernel
theorem xa_M_user_19 : xm_at xP 99 19 = some (19, .goto 4, 23, 0, 0, 0) := by decide +kernel
theorem xa_M_user_22 : xm_at xP 99 22 = some (22, .iconst 0, 0, 0, 0, 0) := by decide +kernel
theorem xa_M_user_23 : xm_at xP 99 23 = some (23, .putfield 66, 3, 0, 0, 0) := by decide +kernel
theorem xa_M_user_26 : xm_at xP 99 26 = some (26, .aload_n 0, 0, 0, 0, 0) := by decide +kernel
theorem xa_M_user_27 : xm_at xP 99 27 = some (27, .getfield 66, 3, 0, 0, 0) := by decide +kernel
theorem xa_M_user_30 : xm_at xP 99 30 = some (30, .ifCond .le 7, 37, 0, 0, 0) := by decide +kernel
theorem xa_M_user_33 : xm_at xP 99 33 = some (33, .iconst 0, 0, 0, 0, 0) := by decide +kernel
theorem xa_M_user_34 : xm_at xP 99 34 = some (34, .goto 9, 43, 0, 0, 0) := by decide +kernel
theorem xa_M_user_37 : xm_at xP 99 37 = some (37, .aload_n 0, 0, 0, 0, 0) := by decide +kernel
theorem xa_M_user_38 : xm_at xP 99 38 = some (38, .iload_n 1, 0, 0, 0, 0) := by decide +kernel
theorem xa_M_user_39 : xm_at xP 99 39 = some (39, .iload_n 2, 0, 0, 0, 0) := by decide +kernel
theorem xa_M_user_40 : xm_at xP 99 40 = some (40, .invokevirtual 83, 77, 3, 3, 0) := by decide +kernel
theorem xa_M_user_43 : xm_at xP 99 43 = some (43, .ireturn, 0, 0, 0, 0) := by decide +kernel
theorem xa_M_fits_0 : xm_at xP 100 0 = some (0, .aload_n 0, 0, 0, 0, 0) := by decide +kernel
theorem xa_M_fits_1 : xm_at xP 100 1 = some (1, .aload_n 0, 0, 0, 0, 0) := by decide +kernel
theorem xa_M_fits_2 : xm_at xP 100 2 = some (2, .iload_n 1, 0, 0, 0, 0) := by decide +kernel
theorem xa_M_fits_3 : xm_at xP 100 3 = some (3, .invokevirtual 79, 72, 2, 3, 0) := by decide +kernel
theorem xa_M_fits_6 : xm_at xP 100 6 = some (6, .ifCond .ne 11, 17, 0, 0, 0) := by decide +kernel
theorem xa_M_fits_9 : xm_at xP 100 9 = some (9, .aload_n 0, 0, 0, 0, 0) := by decide +kernel
theorem xa_M_fits_10 : xm_at xP 100 10 = some (10, .iload_n 2, 0, 0, 0, 0) := by decide +kernel
theorem xa_M_fits_11 : xm_at xP 100 11 = some (11, .invokevirtual 79, 72, 2, 3, 0) := by decide +kernel
theorem xa_M_fits_14 : xm_at xP 100 14 = some (14, .ifCond .eq 7, 21, 0, 0, 0) := by decide +kernel
theorem xa_M_fits_17 : xm_at xP 100 17 = some (17, .iconst 1, 0, 0, 0, 0) := by decide +kernel
theorem xa_M_fits_18 : xm_at xP 100 18 = some (18, .goto 13, 31, 0, 0, 0) := by decide +kernel
theorem xa_M_fits_21 : xm_at xP 100 21 = some (21, .iload_n 1, 0, 0, 0, 0) := by decide +kernel
theorem xa_M_fits_22 : xm_at xP 100 22 = some (22, .iload_n 2, 0, 0, 0, 0) := by decide +kernel
theorem xa_M_fits_23 : xm_at xP 100 23 = some (23, .if_icmp .ne 7, 30, 0, 0, 0) := by decide +kernel
theorem xa_M_fits_26 : xm_at xP 100 26 = some (26, .iconst 2, 0, 0, 0, 0) := by decide +kernel
theorem xa_M_fits_27 : xm_at xP 100 27 = some (27, .goto 4, 31, 0, 0, 0) := by decide +kernel
theorem xa_M_fits_30 : xm_at xP 100 30 = some (30, .iconst 0, 0, 0, 0, 0) := by decide +kernel
theorem xa_M_fits_31 : xm_at xP 100 31 = some (31, .putfield 66, 3, 0, 0, 0) := by decide +kernel
theorem xa_M_fits_34 : xm_at xP 100 34 = some (34, .aload_n 0, 0, 0, 0, 0) := by decide +kernel
theorem xa_M_fits_35 : xm_at xP 100 35 = some (35, .getfield 66, 3, 0, 0, 0) := by decide +kernel
theorem xa_M_fits_38 : xm_at xP 100 38 = some (38, .ifCond .le 5, 43, 0, 0, 0) := by decide +kernel
theorem xa_M_fits_41 : xm_at xP 100 41 = some (41, .iconst 0, 0, 0, 0, 0) := by decide +kernel
theorem xa_M_fits_42 : xm_at xP 100 42 = some (42, .ireturn, 0, 0, 0, 0) := by decide +kernel
theorem xa_M_fits_43 : xm_at xP 100 43 = some (43, .iconst 0, 0, 0, 0, 0) := by decide +kernel
theorem xa_M_fits_44 : xm_at xP 100 44 = some (44, .istore_n 3, 0, 0, 0, 0) := by decide +kernel
theorem xa_M_fits_45 : xm_at xP 100 45 = some (45, .iconst 0, 0, 0, 0, 0) := by decide +kernel
theorem xa_M_fits_46 : xm_at xP 100 46 = some (46, .istore 4, 0, 0, 0, 0) := by decide +kernel
theorem xa_M_fits_48 : xm_at xP 100 48 = some (48, .iload 4, 0, 0, 0, 0) := by decide +kernel
theorem xa_M_fits_50 : xm_at xP 100 50 = some (50, .iconst 4, 0, 0, 0, 0) := by decide +kernel
theorem xa_M_fits_51 : xm_at xP 100 51 = some (51, .if_icmp .ge 27, 78, 0, 0, 0) := by decide +kernel
theorem xa_M_fits_54 : xm_at xP 100 54 = some (54, .aload_n 0, 0, 0, 0, 0) := by decide +kernel
theorem xa_M_fits_55 : xm_at xP 100 55 = some (55, .aload_n 0, 0, 0, 0, 0) := by decide +kernel
theorem xa_M_fits_56 : xm_at xP 100 56 = some (56, .iload 4, 0, 0, 0, 0) := by decide +kernel
theorem xa_M_fits_58 : xm_at xP 100 58 = some (58, .invokevirtual 112, 76, 2, 3, 0) := by decide +kernel
theorem xa_M_fits_61 : xm_at xP 100 61 = some (61, .iload_n 1, 0, 0, 0, 0) := by decide +kernel
theorem xa_M_fits_62 : xm_at xP 100 62 = some (62, .iload_n 2, 0, 0, 0, 0) := by decide +kernel
theorem xa_M_fits_63 : xm_at xP 100 63 = some (63, .invokevirtual 115, 79, 4, 3, 0) := by decide +kernel
theorem xa_M_fits_66 : xm_at xP 100 66 = some (66, .ifCond .eq 6, 72, 0, 0, 0) := by decide +kernel
theorem xa_M_fits_69 : xm_at xP 100 69 = some (69, .iinc 3 1, 0, 0, 0, 0) := by decide +kernel
theorem xa_M_fits_72 : xm_at xP 100 72 = some (72, .iinc 4 1, 0, 0, 0, 0) := by decide +kernel
theorem xa_M_fits_75 : xm_at xP 100 75 = some (75, .goto (-27), 48, 0, 0, 0) := by decide +kernel
theorem xa_M_fits_78 : xm_at xP 100 78 = some (78, .iload_n 3, 0, 0, 0, 0) := by decide +kernel
theorem xa_M_fits_79 : xm_at xP 100 79 = some (79, .ireturn, 0, 0, 0, 0) := by decide +kernel
theorem xa_M_bridge_0 : xm_at xP 101 0 = some (0, .aload_n 0, 0, 0, 0, 0) := by decide +kernel
theorem xa_M_bridge_1 : xm_at xP 101 1 = some (1, .aload_n 0, 0, 0, 0, 0) := by decide +kernel
theorem xa_M_bridge_2 : xm_at xP 101 2 = some (2, .iload_n 1, 0, 0, 0, 0) := by decide +kernel
theorem xa_M_bridge_3 : xm_at xP 101 3 = some (3, .invokevirtual 79, 72, 2, 3, 0) := by decide +kernel
theorem xa_M_bridge_6 : xm_at xP 101 6 = some (6, .ifCond .ne 20, 26, 0, 0, 0) := by decide +kernel
theorem xa_M_bridge_9 : xm_at xP 101 9 = some (9, .aload_n 0, 0, 0, 0, 0) := by decide +kernel
theorem xa_M_bridge_10 : xm_at xP 101 10 = some (10, .iload_n 2, 0, 0, 0, 0) := by decide +kernel
theorem xa_M_bridge_11 : xm_at xP 101 11 = some (11, .invokevirtual 79, 72, 2, 3, 0) := by decide +kernel
theorem xa_M_bridge_14 : xm_at xP 101 14 = some (14, .ifCond .ne 12, 26, 0, 0, 0) := by decide +kernel
theorem xa_M_bridge_17 : xm_at xP 101 17 = some (17, .iload_n 3, 0, 0, 0, 0) := by decide +kernel
theorem xa_M_bridge_18 : xm_at xP 101 18 = some (18, .ifCond .lt 8, 26, 0, 0, 0) := by decide +kernel
theorem xa_M_bridge_21 : xm_at xP 101 21 = some (21, .iload_n 3, 0, 0, 0, 0) := by decide +kernel
theorem xa_M_bridge_22 : xm_at xP 101 22 = some (22, .iconst 3, 0, 0, 0, 0) := by decide +kernel
theorem xa_M_bridge_23 : xm_at xP 101 23 = some (23, .if_icmp .le 7, 30, 0, 0, 0) := by decide +kernel
theorem xa_M_bridge_26 : xm_at xP 101 26 = some (26, .iconst 1, 0, 0, 0, 0) := by decide +kernel
theorem xa_M_bridge_27 : xm_at xP 101 27 = some (27, .goto 13, 40, 0, 0, 0) := by decide +kernel
theorem xa_M_bridge_30 : xm_at xP 101 30 = some (30, .iload_n 1, 0, 0, 0, 0) := by decide +kernel
theorem xa_M_bridge_31 : xm_at xP 101 31 = some (31, .iload_n 2, 0, 0, 0, 0) := by decide +kernel
theorem xa_M_bridge_32 : xm_at xP 101 32 = some (32, .if_icmp .ne 7, 39, 0, 0, 0) := by decide +kernel
theorem xa_M_bridge_35 : xm_at xP 101 35 = some (35, .iconst 2, 0, 0, 0, 0) := by decide +kernel
theorem xa_M_bridge_36 : xm_at xP 101 36 = some (36, .goto 4, 40, 0, 0, 0) := by decide +kernel
theorem xa_M_bridge_39 : xm_at xP 101 39 = some (39, .iconst 0, 0, 0, 0, 0) := by decide +kernel
theorem xa_M_bridge_40 : xm_at xP 101 40 = some (40, .putfield 66, 3, 0, 0, 0) := by decide +kernel
theorem xa_M_bridge_43 : xm_at xP 101 43 = some (43, .aload_n 0, 0, 0, 0, 0) := by decide +kernel
theorem xa_M_bridge_44 : xm_at xP 101 44 = some (44, .getfield 66, 3, 0, 0, 0) := by decide +kernel
theorem xa_M_bridge_47 : xm_at xP 101 47 = some (47, .ifCond .le 5, 52, 0, 0, 0) := by decide +kernel
theorem xa_M_bridge_50 : xm_at xP 101 50 = some (50, .iconst 0, 0, 0, 0, 0) := by decide +kernel
theorem xa_M_bridge_51 : xm_at xP 101 51 = some (51, .ireturn, 0, 0, 0, 0) := by decide +kernel
theorem xa_M_bridge_52 : xm_at xP 101 52 = some (52, .aload_n 0, 0, 0, 0, 0) := by decide +kernel
theorem xa_M_bridge_53 : xm_at xP 101 53 = some (53, .iload_n 3, 0, 0, 0, 0) := by decide +kernel
theorem xa_M_bridge_54 : xm_at xP 101 54 = some (54, .invokevirtual 112, 76, 2, 3, 0) := by decide +kernel
theorem xa_M_bridge_57 : xm_at xP 101 57 = some (57, .istore 4, 0, 0, 0, 0) := by decide +kernel
theorem xa_M_bridge_59 : xm_at xP 101 59 = some (59, .aload_n 0, 0, 0, 0, 0) := by decide +kernel
theorem xa_M_bridge_60 : xm_at xP 101 60 = some (60, .iload 4, 0, 0, 0, 0) := by decide +kernel
theorem xa_M_bridge_62 : xm_at xP 101 62 = some (62, .iload_n 1, 0, 0, 0, 0) := by decide +kernel
theorem xa_M_bridge_63 : xm_at xP 101 63 = some (63, .iload_n 2, 0, 0, 0, 0) := by decide +kernel
theorem xa_M_bridge_64 : xm_at xP 101 64 = some (64, .invokevirtual 97, 80, 4, 3, 0) := by decide +kernel
theorem xa_M_bridge_67 : xm_at xP 101 67 = some (67, .aload_n 0, 0, 0, 0, 0) := by decide +kernel
theorem xa_M_bridge_68 : xm_at xP 101 68 = some (68, .getfield 86, 3, 17, 0, 0) := by decide +kernel
theorem xa_M_bridge_71 : xm_at xP 101 71 = some (71, .ifCond .ne 5, 76, 0, 0, 0) := by decide +kernel
theorem xa_M_bridge_74 : xm_at xP 101 74 = some (74, .iconst (-1), 0, 0, 0, 0) := by decide +kernel
theorem xa_M_bridge_75 : xm_at xP 101 75 = some (75, .ireturn, 0, 0, 0, 0) := by decide +kernel
theorem xa_M_bridge_76 : xm_at xP 101 76 = some (76, .iload 4, 0, 0, 0, 0) := by decide +kernel
theorem xa_M_bridge_78 : xm_at xP 101 78 = some (78, .istore 5, 0, 0, 0, 0) := by decide +kernel
theorem xa_M_bridge_80 : xm_at xP 101 80 = some (80, .iconst 0, 0, 0, 0, 0) := by decide +kernel
theorem xa_M_bridge_81 : xm_at xP 101 81 = some (81, .istore 6, 0, 0, 0, 0) := by decide +kernel
theorem xa_M_bridge_83 : xm_at xP 101 83 = some (83, .iload 6, 0, 0, 0, 0) := by decide +kernel
theorem xa_M_bridge_85 : xm_at xP 101 85 = some (85, .aload_n 0, 0, 0, 0, 0) := by decide +kernel
theorem xa_M_bridge_86 : xm_at xP 101 86 = some (86, .getfield 86, 3, 17, 0, 0) := by decide +kernel
theorem xa_M_bridge_89 : xm_at xP 101 89 = some (89, .if_icmp .ge 21, 110, 0, 0, 0) := by decide +kernel
theorem xa_M_bridge_92 : xm_at xP 101 92 = some (92, .iload 5, 0, 0, 0, 0) := by decide +kernel
theorem xa_M_bridge_94 : xm_at xP 101 94 = some (94, .aload_n 0, 0, 0, 0, 0) := by decide +kernel
theorem xa_M_bridge_95 : xm_at xP 101 95 = some (95, .getfield 54, 3, 18, 0, 0) := by decide +kernel
theorem xa_M_bridge_98 : xm_at xP 101 98 = some (98, .iload 6, 0, 0, 0, 0) := by decide +kernel
theorem xa_M_bridge_100 : xm_at xP 101 100 = some (100, .iaload, 0, 0, 0, 0) := by decide +kernel
theorem xa_M_bridge_101 : xm_at xP 101 101 = some (101, .iand, 0, 0, 0, 0) := by decide +kernel
theorem xa_M_bridge_102 : xm_at xP 101 102 = some (102, .istore 5, 0, 0, 0, 0) := by decide +kernel
theorem xa_M_bridge_104 : xm_at xP 101 104 = some (104, .iinc 6 1, 0, 0, 0, 0) := by decide +kernel
theorem xa_M_bridge_107 : xm_at xP 101 107 = some (107, .goto (-24), 83, 0, 0, 0) := by decide +kernel
theorem xa_M_bridge_110 : xm_at xP 101 110 = some (110, .iconst 0, 0, 0, 0, 0) := by decide +kernel
theorem xa_M_bridge_111 : xm_at xP 101 111 = some (111, .istore 6, 0, 0, 0, 0) := by decide +kernel
theorem xa_M_bridge_113 : xm_at xP 101 113 = some (113, .iload 6, 0, 0, 0, 0) := by decide +kernel
theorem xa_M_bridge_115 : xm_at xP 101 115 = some (115, .aload_n 0, 0, 0, 0, 0) := by decide +kernel
theorem xa_M_bridge_116 : xm_at xP 101 116 = some (116, .getfield 69, 3, 2, 0, 0) := by decide +kernel
theorem xa_M_bridge_119 : xm_at xP 101 119 = some (119, .if_icmp .ge 23, 142, 0, 0, 0) := by decide +kernel
theorem xa_M_bridge_122 : xm_at xP 101 122 = some (122, .iload 5, 0, 0, 0, 0) := by decide +kernel
theorem xa_M_bridge_124 : xm_at xP 101 124 = some (124, .iload 6, 0, 0, 0, 0) := by decide +kernel
theorem xa_M_bridge_126 : xm_at xP 101 126 = some (126, .invokestatic 72, 78, 2, 0, 0) := by decide +kernel
theorem xa_M_bridge_129 : xm_at xP 101 129 = some (129, .iconst 1, 0, 0, 0, 0) := by decide +kernel
theorem xa_M_bridge_130 : xm_at xP 101 130 = some (130, .if_icmp .ne 6, 136, 0, 0, 0) := by decide +kernel
theorem xa_M_bridge_133 : xm_at xP 101 133 = some (133, .iload 6, 0, 0, 0, 0) := by decide +kernel
theorem xa_M_bridge_135 : xm_at xP 101 135 = some (135, .ireturn, 0, 0, 0, 0) := by decide +kernel
theorem xa_M_bridge_136 : xm_at xP 101 136 = some (136, .iinc 6 1, 0, 0, 0, 0) := by decide +kernel
theorem xa_M_bridge_139 : xm_at xP 101 139 = some (139, .goto (-26), 113, 0, 0, 0) := by decide +kernel
theorem xa_M_bridge_142 : xm_at xP 101 142 = some (142, .bipush (-2), 0, 0, 0, 0) := by decide +kernel
theorem xa_M_bridge_144 : xm_at xP 101 144 = some (144, .ireturn, 0, 0, 0, 0) := by decide +kernel
theorem xa_M_exposed_0 : xm_at xP 102 0 = some (0, .aload_n 0, 0, 0, 0, 0) := by decide +kernel
theorem xa_M_exposed_1 : xm_at xP 102 1 = some (1, .iconst 0, 0, 0, 0, 0) := by decide +kernel
theorem xa_M_exposed_2 : xm_at xP 102 2 = some (2, .putfield 66, 3, 0, 0, 0) := by decide +kernel
theorem xa_M_exposed_5 : xm_at xP 102 5 = some (5, .iconst 0, 0, 0, 0, 0) := by decide +kernel
theorem xa_M_exposed_6 : xm_at xP 102 6 = some (6, .istore_n 1, 0, 0, 0, 0) := by decide +kernel
theorem xa_M_exposed_7 : xm_at xP 102 7 = some (7, .iconst 0, 0, 0, 0, 0) := by decide +kernel
theorem xa_M_exposed_8 : xm_at xP 102 8 = some (8, .istore_n 2, 0, 0, 0, 0) := by decide +kernel
theorem xa_M_exposed_9 : xm_at xP 102 9 = some (9, .iload_n 2, 0, 0, 0, 0) := by decide +kernel
theorem xa_M_exposed_10 : xm_at xP 102 10 = some (10, .bipush 12, 0, 0, 0, 0) := by decide +kernel
theorem xa_M_exposed_12 : xm_at xP 102 12 = some (12, .if_icmp .ge 40, 52, 0, 0, 0) := by decide +kernel
theorem xa_M_exposed_15 : xm_at xP 102 15 = some (15, .aload_n 0, 0, 0, 0, 0) := by decide +kernel
theorem xa_M_exposed_16 : xm_at xP 102 16 = some (16, .getfield 27, 3, 8, 0, 0) := by decide +kernel
theorem xa_M_exposed_19 : xm_at xP 102 19 = some (19, .iload_n 2, 0, 0, 0, 0) := by decide +kernel
theorem xa_M_exposed_20 : xm_at xP 102 20 = some (20, .baload, 0, 0, 0, 0) := by decide +kernel
theorem xa_M_exposed_21 : xm_at xP 102 21 = some (21, .ifCond .eq 25, 46, 0, 0, 0) := by decide +kernel
theorem xa_M_exposed_24 : xm_at xP 102 24 = some (24, .aload_n 0, 0, 0, 0, 0) := by decide +kernel
theorem xa_M_exposed_25 : xm_at xP 102 25 = some (25, .getfield 30, 3, 9, 0, 0) := by decide +kernel
theorem xa_M_exposed_28 : xm_at xP 102 28 = some (28, .iload_n 2, 0, 0, 0, 0) := by decide +kernel
theorem xa_M_exposed_29 : xm_at xP 102 29 = some (29, .baload, 0, 0, 0, 0) := by decide +kernel
theorem xa_M_exposed_30 : xm_at xP 102 30 = some (30, .ifCond .eq 16, 46, 0, 0, 0) := by decide +kernel
theorem xa_M_exposed_33 : xm_at xP 102 33 = some (33, .aload_n 0, 0, 0, 0, 0) := by decide +kernel
theorem xa_M_exposed_34 : xm_at xP 102 34 = some (34, .getfield 48, 3, 15, 0, 0) := by decide +kernel
theorem xa_M_exposed_37 : xm_at xP 102 37 = some (37, .iload_n 2, 0, 0, 0, 0) := by decide +kernel
theorem xa_M_exposed_38 : xm_at xP 102 38 = some (38, .iaload, 0, 0, 0, 0) := by decide +kernel
theorem xa_M_exposed_39 : xm_at xP 102 39 = some (39, .iconst 2, 0, 0, 0, 0) := by decide +kernel
theorem xa_M_exposed_40 : xm_at xP 102 40 = some (40, .if_icmp .ne 6, 46, 0, 0, 0) := by decide +kernel
theorem xa_M_exposed_43 : xm_at xP 102 43 = some (43, .iinc 1 1, 0, 0, 0, 0) := by decide +kernel
theorem xa_M_exposed_46 : xm_at xP 102 46 = some (46, .iinc 2 1, 0, 0, 0, 0) := by decide +kernel
theorem xa_M_exposed_49 : xm_at xP 102 49 = some (49, .goto (-40), 9, 0, 0, 0) := by decide +kernel
theorem xa_M_exposed_52 : xm_at xP 102 52 = some (52, .iload_n 1, 0, 0, 0, 0) := by decide +kernel
theorem xa_M_exposed_53 : xm_at xP 102 53 = some (53, .ireturn, 0, 0, 0, 0) := by decide +kernel
theorem xa_M_count_0 : xm_at xP 103 0 = some (0, .aload_n 0, 0, 0, 0, 0) := by decide +kernel
theorem xa_M_count_1 : xm_at xP 103 1 = some (1, .iload_n 1, 0, 0, 0, 0) := by decide +kernel
theorem xa_M_count_2 : xm_at xP 103 2 = some (2, .ifCond .lt 8, 10, 0, 0, 0) := by decide +kernel
theorem xa_M_count_5 : xm_at xP 103 5 = some (5, .iload_n 1, 0, 0, 0, 0) := by decide +kernel
theorem xa_M_count_6 : xm_at xP 103 6 = some (6, .iconst 4, 0, 0, 0, 0) := by decide +kernel
theorem xa_M_count_7 : xm_at xP 103 7 = some (7, .if_icmp .le 7, 14, 0, 0, 0) := by decide +kernel
theorem xa_M_count_10 : xm_at xP 103 10 = some (10, .iconst 1, 0, 0, 0, 0) := by decide +kernel
theorem xa_M_count_11 : xm_at xP 103 11 = some (11, .goto 4, 15, 0, 0, 0) := by decide +kernel
theorem xa_M_count_14 : xm_at xP 103 14 = some (14, .iconst 0, 0, 0, 0, 0) := by decide +kernel
theorem xa_M_count_15 : xm_at xP 103 15 = some (15, .putfield 66, 3, 0, 0, 0) := by decide +kernel
theorem xa_M_count_18 : xm_at xP 103 18 = some (18, .aload_n 0, 0, 0, 0, 0) := by decide +kernel
theorem xa_M_count_19 : xm_at xP 103 19 = some (19, .getfield 66, 3, 0, 0, 0) := by decide +kernel
theorem xa_M_count_22 : xm_at xP 103 22 = some (22, .ifCond .le 5, 27, 0, 0, 0) := by decide +kernel
theorem xa_M_count_25 : xm_at xP 103 25 = some (25, .iconst 0, 0, 0, 0, 0) := by decide +kernel
theorem xa_M_count_26 : xm_at xP 103 26 = some (26, .ireturn, 0, 0, 0, 0) := by decide +kernel
theorem xa_M_count_27 : xm_at xP 103 27 = some (27, .iconst 0, 0, 0, 0, 0) := by decide +kernel
theorem xa_M_count_28 : xm_at xP 103 28 = some (28, .istore_n 2, 0, 0, 0, 0) := by decide +kernel
theorem xa_M_count_29 : xm_at xP 103 29 = some (29, .iconst 0, 0, 0, 0, 0) := by decide +kernel
theorem xa_M_count_30 : xm_at xP 103 30 = some (30, .istore_n 3, 0, 0, 0, 0) := by decide +kernel
theorem xa_M_count_31 : xm_at xP 103 31 = some (31, .iconst 0, 0, 0, 0, 0) := by decide +kernel
theorem xa_M_count_32 : xm_at xP 103 32 = some (32, .istore 4, 0, 0, 0, 0) := by decide +kernel
theorem xa_M_count_34 : xm_at xP 103 34 = some (34, .iconst 0, 0, 0, 0, 0) := by decide +kernel
theorem xa_M_count_35 : xm_at xP 103 35 = some (35, .istore 5, 0, 0, 0, 0) := by decide +kernel
theorem xa_M_count_37 : xm_at xP 103 37 = some (37, .iload 5, 0, 0, 0, 0) := by decide +kernel
theorem xa_M_count_39 : xm_at xP 103 39 = some (39, .bipush 12, 0, 0, 0, 0) := by decide +kernel
theorem xa_M_count_41 : xm_at xP 103 41 = some (41, .if_icmp .ge 22, 63, 0, 0, 0) := by decide +kernel
theorem xa_M_count_44 : xm_at xP 103 44 = some (44, .aload_n 0, 0, 0, 0, 0) := by decide +kernel
theorem xa_M_count_45 : xm_at xP 103 45 = some (45, .getfield 27, 3, 8, 0, 0) := by decide +kernel
theorem xa_M_count_48 : xm_at xP 103 48 = some (48, .iload 5, 0, 0, 0, 0) := by decide +kernel
theorem xa_M_count_50 : xm_at xP 103 50 = some (50, .baload, 0, 0, 0, 0) := by decide +kernel
theorem xa_M_count_51 : xm_at xP 103 51 = some (51, .ifCond .eq 6, 57, 0, 0, 0) := by decide +kernel
theorem xa_M_count_54 : xm_at xP 103 54 = some (54, .iinc 2 1, 0, 0, 0, 0) := by decide +kernel
theorem xa_M_count_57 : xm_at xP 103 57 = some (57, .iinc 5 1, 0, 0, 0, 0) := by decide +kernel
theorem xa_M_count_60 : xm_at xP 103 60 = some (60, .goto (-23), 37, 0, 0, 0) := by decide +kernel
theorem xa_M_count_63 : xm_at xP 103 63 = some (63, .iconst 0, 0, 0, 0, 0) := by decide +kernel
theorem xa_M_count_64 : xm_at xP 103 64 = some (64, .istore 5, 0, 0, 0, 0) := by decide +kernel
theorem xa_M_count_66 : xm_at xP 103 66 = some (66, .iload 5, 0, 0, 0, 0) := by decide +kernel
theorem xa_M_count_68 : xm_at xP 103 68 = some (68, .aload_n 0, 0, 0, 0, 0) := by decide +kernel
theorem xa_M_count_69 : xm_at xP 103 69 = some (69, .getfield 69, 3, 2, 0, 0) := by decide +kernel
theorem xa_M_count_72 : xm_at xP 103 72 = some (72, .if_icmp .ge 48, 120, 0, 0, 0) := by decide +kernel
theorem xa_M_count_75 : xm_at xP 103 75 = some (75, .aload_n 0, 0, 0, 0, 0) := by decide +kernel
theorem xa_M_count_76 : xm_at xP 103 76 = some (76, .getfield 20, 3, 5, 0, 0) := by decide +kernel
theorem xa_M_count_79 : xm_at xP 103 79 = some (79, .iload 5, 0, 0, 0, 0) := by decide +kernel
theorem xa_M_count_81 : xm_at xP 103 81 = some (81, .baload, 0, 0, 0, 0) := by decide +kernel
theorem xa_M_count_82 : xm_at xP 103 82 = some (82, .ifCond .eq 9, 91, 0, 0, 0) := by decide +kernel
theorem xa_M_count_85 : xm_at xP 103 85 = some (85, .iload_n 3, 0, 0, 0, 0) := by decide +kernel
theorem xa_M_count_86 : xm_at xP 103 86 = some (86, .iconst 1, 0, 0, 0, 0) := by decide +kernel
theorem xa_M_count_87 : xm_at xP 103 87 = some (87, .iadd, 0, 0, 0, 0) := by decide +kernel
theorem xa_M_count_88 : xm_at xP 103 88 = some (88, .goto 4, 92, 0, 0, 0) := by decide +kernel
theorem xa_M_count_91 : xm_at xP 103 91 = some (91, .iload_n 3, 0, 0, 0, 0) := by decide +kernel
theorem xa_M_count_92 : xm_at xP 103 92 = some (92, .istore_n 3, 0, 0, 0, 0) := by decide +kernel
theorem xa_M_count_93 : xm_at xP 103 93 = some (93, .aload_n 0, 0, 0, 0, 0) := by decide +kernel
theorem xa_M_count_94 : xm_at xP 103 94 = some (94, .getfield 24, 3, 6, 0, 0) := by decide +kernel
theorem xa_M_count_97 : xm_at xP 103 97 = some (97, .iload 5, 0, 0, 0, 0) := by decide +kernel
theorem xa_M_count_99 : xm_at xP 103 99 = some (99, .baload, 0, 0, 0, 0) := by decide +kernel
theorem xa_M_count_100 : xm_at xP 103 100 = some (100, .ifCond .eq 10, 110, 0, 0, 0) := by decide +kernel
theorem xa_M_count_103 : xm_at xP 103 103 = some (103, .iload 4, 0, 0, 0, 0) := by decide +kernel
theorem xa_M_count_105 : xm_at xP 103 105 = some (105, .iconst 1, 0, 0, 0, 0) := by decide +kernel
theorem xa_M_count_106 : xm_at xP 103 106 = some (106, .iadd, 0, 0, 0, 0) := by decide +kernel
theorem xa_M_count_107 : xm_at xP 103 107 = some (107, .goto 5, 112, 0, 0, 0) := by decide +kernel
theorem xa_M_count_110 : xm_at xP 103 110 = some (110, .iload 4, 0, 0, 0, 0) := by decide +kernel
theorem xa_M_count_112 : xm_at xP 103 112 = some (112, .istore 4, 0, 0, 0, 0) := by decide +kernel
theorem xa_M_count_114 : xm_at xP 103 114 = some (114, .iinc 5 1, 0, 0, 0, 0) := by decide +kernel
theorem xa_M_count_117 : xm_at xP 103 117 = some (117, .goto (-51), 66, 0, 0, 0) := by decide +kernel
theorem xa_M_count_120 : xm_at xP 103 120 = some (120, .iload_n 1, 0, 0, 0, 0) := by decide +kernel
theorem xa_M_count_121 : xm_at xP 103 121 = some (121, .ifCond .ne 10, 131, 0, 0, 0) := by decide +kernel
theorem xa_M_count_124 : xm_at xP 103 124 = some (124, .aload_n 0, 0, 0, 0, 0) := by decide +kernel
theorem xa_M_count_125 : xm_at xP 103 125 = some (125, .getfield 7, 3, 1, 0, 0) := by decide +kernel
theorem xa_M_count_128 : xm_at xP 103 128 = some (128, .goto 35, 163, 0, 0, 0) := by decide +kernel
theorem xa_M_count_131 : xm_at xP 103 131 = some (131, .iload_n 1, 0, 0, 0, 0) := by decide +kernel
theorem xa_M_count_132 : xm_at xP 103 132 = some (132, .iconst 1, 0, 0, 0, 0) := by decide +kernel
theorem xa_M_count_133 : xm_at xP 103 133 = some (133, .if_icmp .ne 10, 143, 0, 0, 0) := by decide +kernel
theorem xa_M_count_136 : xm_at xP 103 136 = some (136, .aload_n 0, 0, 0, 0, 0) := by decide +kernel
theorem xa_M_count_137 : xm_at xP 103 137 = some (137, .getfield 69, 3, 2, 0, 0) := by decide +kernel
theorem xa_M_count_140 : xm_at xP 103 140 = some (140, .goto 23, 163, 0, 0, 0) := by decide +kernel
theorem xa_M_count_143 : xm_at xP 103 143 = some (143, .iload_n 1, 0, 0, 0, 0) := by decide +kernel
theorem xa_M_count_144 : xm_at xP 103 144 = some (144, .iconst 2, 0, 0, 0, 0) := by decide +kernel
theorem xa_M_count_145 : xm_at xP 103 145 = some (145, .if_icmp .ne 7, 152, 0, 0, 0) := by decide +kernel
theorem xa_M_count_148 : xm_at xP 103 148 = some (148, .iload_n 2, 0, 0, 0, 0) := by decide +kernel
theorem xa_M_count_149 : xm_at xP 103 149 = some (149, .goto 14, 163, 0, 0, 0) := by decide +kernel
theorem xa_M_count_152 : xm_at xP 103 152 = some (152, .iload_n 1, 0, 0, 0, 0) := by decide +kernel
theorem xa_M_count_153 : xm_at xP 103 153 = some (153, .iconst 3, 0, 0, 0, 0) := by decide +kernel
theorem xa_M_count_154 : xm_at xP 103 154 = some (154, .if_icmp .ne 7, 161, 0, 0, 0) := by decide +kernel
theorem xa_M_count_157 : xm_at xP 103 157 = some (157, .iload_n 3, 0, 0, 0, 0) := by decide +kernel
theorem xa_M_count_158 : xm_at xP 103 158 = some (158, .goto 5, 163, 0, 0, 0) := by decide +kernel
theorem xa_M_count_161 : xm_at xP 103 161 = some (161, .iload 4, 0, 0, 0, 0) := by decide +kernel
theorem xa_M_count_163 : xm_at xP 103 163 = some (163, .ireturn, 0, 0, 0, 0) := by decide +kernel
section XM10
variable {xs : Nat → Int32} {LS d : Nat} {ks : Nat} {fl : Bool} {h : List va_E} {Q : (Option Value ⊕ Nat) → xm_S → Prop}
variable {Mc : Int32} {Mn : Nat} {Mm : Nat} {Mh : Int32} {Mp : Nat} {Mfw : Int32} {Mfs : Int32} {Me : Nat → Nat} {Ml : Nat → Nat} {Mbr : Nat → Bool} {Mlk : Nat → Bool} {Mt : Nat → Bool} {Mg : Nat → Bool} {Ma : Nat → Nat} {Mb : Nat → Nat} {Mw : Nat → Nat} {Mwk : Nat → Int32} {Msp : Nat → Int32} {Mon : Nat → Int32} {Mct : Nat → Int32} {MS : Nat → Int32} {MZ : Nat → Int32} {MA : Nat → Nat} {MN : Nat → Nat}
def cd_cut (m : Nat) (br : Nat → Bool) (x : Int32) (is : Bool) : Int32 := if xnS m x = true then 1 else if br x.toNatClampNeg = is then 2 else 0
theorem c_M_cut {x : Int32} (hm : Mm ≤ 14) (hM : xMs h Mc Mn Mm Mh Me Ml Mbr Mlk Mt Mg Ma Mb Mw Mwk Msp Mon Mct)
    (k1 : ∀ v, ¬ v = 0 → cd_cut Mm Mbr x true = v → ∀ h' fl', xMs h' v Mn Mm Mh Me Ml Mbr Mlk Mt Mg Ma Mb Mw Mwk Msp Mon Mct → xS h h' 22 40 → Q (.inl none) (h', ks, fl'))
    (k0 : cd_cut Mm Mbr x true = 0 → ∀ f h' fl', f < Mm → x = nI f → Mbr f = false → xMs h' 0 Mn Mm Mh Me Ml (xup Mbr f true) Mlk Mt Mg Ma Mb Mw Mwk Msp (xmix Mt (fun c => (xseF Mm Mh (xup Mbr f true) Mwk Msp Mon Mct c).1) Mon 12) (xmix Mt (fun c => (xseF Mm Mh (xup Mbr f true) Mwk Msp Mon Mct c).2) Mct 12) → xS h h' 22 40 → Q (.inl none) (h', ks, fl')) :
    xG xs LS (d + 3) 90 (0, xm_entry xP 90 [.ref 22, .int x], []) (h, ks, fl) Q := by
  show xG xs LS (d + 3) 90 (0, [some (.ref 22), some (.int x)], []) (h, ks, fl) Q
  obtain ⟨Mp, Mfw, Mfs, MS, MZ, MA, MN, hM, hA, hN⟩ := hM
  obtain ⟨g22, g23, g24, g25, g26, g27, g28, g29, g30, g31, g32, g33, g34, g35, g36, g37, g38, g39⟩ := id hM
  unfold cd_cut at k1 k0
  have bad : ∀ v, 0 < v → (if xnS Mm x = true then 1 else if Mbr x.toNatClampNeg = true then 2 else 0) = v → xG xs LS (d + 3) 90 (27, [some (.ref 22), some (.int x)], [.int v, .ref 22]) (h, ks, fl) Q := by
    intro v hv hc
    have hv0 : ¬ v = 0 := fun q => by rw [q] at hv; exact absurd hv (by decide)
    refine xg_putf (fs' := [_, _, _, _, _, _, _, _, _, _, _, _, _, _, _, _, _, _, _, _, _, _, _, _]) xa_M_cut_27 (by assumption) (Nat.le_of_ble_eq_true rfl) rfl rfl (fun h27 u27 => ?_)
    have hM1 := xMd_o (Mc' := v) hM u27
    obtain ⟨g22, g23, g24, g25, g26, g27, g28, g29, g30, g31, g32, g33, g34, g35, g36, g37, g38, g39⟩ := id hM1
    refine xg_aload_n xa_M_cut_30 rfl ?_
    refine xg_getfield xa_M_cut_31 (by assumption) rfl ?_
    refine xg_if_le xa_M_cut_34 (fun c => absurd hv (Int32.not_lt.mpr c)) (fun _ => ?_)
    exact xg_return xa_M_cut_37 (k1 v hv0 hc _ _ ⟨_, _, _, _, _, _, _, hM1, hA, hN⟩ (u27.toS (by decide) (by decide)))
  refine xg_aload_n xa_M_cut_0 rfl ?_
  refine xg_aload_n xa_M_cut_1 rfl ?_
  refine xg_iload_n xa_M_cut_2 rfl ?_
  refine xg_callV1 xa_M_cut_3 ⟨Nat.le_of_ble_eq_true rfl, Nat.le_of_ble_eq_true rfl, rfl⟩ rfl rfl (by assumption) ?_
  refine c_M_noFibre hM ?_
  refine xK1_c ?_
  refine xg_if_eq xa_M_cut_6 (fun c => ?_) (fun c => ?_)
  · have hf := (xz0 _).mp c
    obtain ⟨j, hj, rfl⟩ := xi_s (by omega) hf
    have hj14 : j < 14 := by omega
    rw [if_neg (show ¬ xnS Mm (nI j) = true by rw [hf]; decide), nI_clamp (by omega)] at k0 bad
    refine xg_aload_n xa_M_cut_13 rfl ?_
    refine xg_getfield xa_M_cut_14 (by assumption) rfl ?_
    refine xg_iload_n xa_M_cut_17 rfl ?_
    refine xg_zald_n xa_M_cut_18 (by assumption) rfl (by assumption) (by decide) ?_
    refine xg_if_eq xa_M_cut_19 (fun c => ?_) (fun c => ?_)
    · have hne := (xz0 _).mp c
      rw [if_neg (by rw [hne]; decide)] at k0
      refine xg_iconst (v := 0) xa_M_cut_26 (by decide) ?_
      refine xg_putf (fs' := [_, _, _, _, _, _, _, _, _, _, _, _, _, _, _, _, _, _, _, _, _, _, _, _]) xa_M_cut_27 (by assumption) (Nat.le_of_ble_eq_true rfl) rfl rfl (fun h27 u27 => ?_)
      have hM1 := xMd_o (Mc' := 0) hM u27
      obtain ⟨g22, g23, g24, g25, g26, g27, g28, g29, g30, g31, g32, g33, g34, g35, g36, g37, g38, g39⟩ := id hM1
      have hxx : (1 : Int32) = 0 ∨ (1 : Int32) = 1 := Or.inr rfl
      refine xg_aload_n xa_M_cut_30 rfl ?_
      refine xg_getfield xa_M_cut_31 (by assumption) rfl ?_
      refine xg_if_le xa_M_cut_34 (fun _ => ?_) (fun c => absurd (by decide) c)
      refine xg_aload_n xa_M_cut_38 rfl ?_
      refine xg_getfield xa_M_cut_39 (by assumption) rfl ?_
      refine xg_iload_n xa_M_cut_42 rfl ?_
      refine xg_iconst (v := 1) xa_M_cut_43 (by decide) ?_
      refine xg_zastf_n xa_M_cut_44 (by assumption) rfl (by assumption) (by decide) (by assumption) (fun h44 u44 => ?_)
      have hM2 := xMd_Mbr (x := true) hM1 u44
      obtain ⟨g22, g23, g24, g25, g26, g27, g28, g29, g30, g31, g32, g33, g34, g35, g36, g37, g38, g39⟩ := id hM2
      refine xg_aload_n xa_M_cut_45 rfl ?_
      refine xg_callV0 xa_M_cut_46 ⟨Nat.le_of_ble_eq_true rfl, Nat.le_of_ble_eq_true rfl, rfl⟩ rfl rfl (by assumption) ?_
      refine c_M_settle hm hM2 (fun h' fl' q1 q2 => xK0_d ?_)
      exact xg_return xa_M_cut_49 (k0 rfl j _ _ hj rfl hne ⟨_, _, _, _, _, _, _, q1, hA, hN⟩ (((u27.toS (by decide) (by decide)).tr (u44.toS (by decide) (by decide))).tr q2))
    · refine xg_iconst (v := 2) xa_M_cut_22 (by decide) ?_
      refine xg_goto xa_M_cut_23 ?_
      exact bad 2 (by decide) (if_pos (xz1 c))
  · refine xg_iconst (v := 1) xa_M_cut_9 (by decide) ?_
    refine xg_goto xa_M_cut_10 ?_
    exact bad 1 (by decide) (if_pos (xz1 c))
theorem c_M_mend {x : Int32} (hm : Mm ≤ 14) (hM : xMs h Mc Mn Mm Mh Me Ml Mbr Mlk Mt Mg Ma Mb Mw Mwk Msp Mon Mct)
    (k1 : ∀ v, ¬ v = 0 → cd_cut Mm Mbr x false = v → ∀ h' fl', xMs h' v Mn Mm Mh Me Ml Mbr Mlk Mt Mg Ma Mb Mw Mwk Msp Mon Mct → xS h h' 22 40 → Q (.inl none) (h', ks, fl'))
    (k0 : cd_cut Mm Mbr x false = 0 → ∀ f h' fl', f < Mm → x = nI f → Mbr f = true → xMs h' 0 Mn Mm Mh Me Ml (xup Mbr f false) Mlk Mt Mg Ma Mb Mw Mwk Msp (xmix Mt (fun c => (xseF Mm Mh (xup Mbr f false) Mwk Msp Mon Mct c).1) Mon 12) (xmix Mt (fun c => (xseF Mm Mh (xup Mbr f false) Mwk Msp Mon Mct c).2) Mct 12) → xS h h' 22 40 → Q (.inl none) (h', ks, fl')) :
    xG xs LS (d + 3) 93 (0, xm_entry xP 93 [.ref 22, .int x], []) (h, ks, fl) Q := by
  show xG xs LS (d + 3) 93 (0, [some (.ref 22), some (.int x)], []) (h, ks, fl) Q
  obtain ⟨Mp, Mfw, Mfs, MS, MZ, MA, MN, hM, hA, hN⟩ := hM
  obtain ⟨g22, g23, g24, g25, g26, g27, g28, g29, g30, g31, g32, g33, g34, g35, g36, g37, g38, g39⟩ := id hM
  unfold cd_cut at k1 k0
  have bad : ∀ v, 0 < v → (if xnS Mm x = true then 1 else if Mbr x.toNatClampNeg = false then 2 else 0) = v → xG xs LS (d + 3) 93 (27, [some (.ref 22), some (.int x)], [.int v, .ref 22]) (h, ks, fl) Q := by
    intro v hv hc
    have hv0 : ¬ v = 0 := fun q => by rw [q] at hv; exact absurd hv (by decide)
    refine xg_putf (fs' := [_, _, _, _, _, _, _, _, _, _, _, _, _, _, _, _, _, _, _, _, _, _, _, _]) xa_M_mend_27 (by assumption) (Nat.le_of_ble_eq_true rfl) rfl rfl (fun h27 u27 => ?_)
    have hM1 := xMd_o (Mc' := v) hM u27
    obtain ⟨g22, g23, g24, g25, g26, g27, g28, g29, g30, g31, g32, g33, g34, g35, g36, g37, g38, g39⟩ := id hM1
    refine xg_aload_n xa_M_mend_30 rfl ?_
    refine xg_getfield xa_M_mend_31 (by assumption) rfl ?_
    refine xg_if_le xa_M_mend_34 (fun c => absurd hv (Int32.not_lt.mpr c)) (fun _ => ?_)
    exact xg_return xa_M_mend_37 (k1 v hv0 hc _ _ ⟨_, _, _, _, _, _, _, hM1, hA, hN⟩ (u27.toS (by decide) (by decide)))
  refine xg_aload_n xa_M_mend_0 rfl ?_
  refine xg_aload_n xa_M_mend_1 rfl ?_
  refine xg_iload_n xa_M_mend_2 rfl ?_
  refine xg_callV1 xa_M_mend_3 ⟨Nat.le_of_ble_eq_true rfl, Nat.le_of_ble_eq_true rfl, rfl⟩ rfl rfl (by assumption) ?_
  refine c_M_noFibre hM ?_
  refine xK1_c ?_
  refine xg_if_eq xa_M_mend_6 (fun c => ?_) (fun c => ?_)
  · have hf := (xz0 _).mp c
    obtain ⟨j, hj, rfl⟩ := xi_s (by omega) hf
    have hj14 : j < 14 := by omega
    rw [if_neg (show ¬ xnS Mm (nI j) = true by rw [hf]; decide), nI_clamp (by omega)] at k0 bad
    refine xg_aload_n xa_M_mend_13 rfl ?_
    refine xg_getfield xa_M_mend_14 (by assumption) rfl ?_
    refine xg_iload_n xa_M_mend_17 rfl ?_
    refine xg_zald_n xa_M_mend_18 (by assumption) rfl (by assumption) (by decide) ?_
    refine xg_if_ne xa_M_mend_19 (fun c => ?_) (fun c => ?_)
    · have hne := xz1 c
      rw [if_neg (by rw [hne]; decide)] at k0
      refine xg_iconst (v := 0) xa_M_mend_26 (by decide) ?_
      refine xg_putf (fs' := [_, _, _, _, _, _, _, _, _, _, _, _, _, _, _, _, _, _, _, _, _, _, _, _]) xa_M_mend_27 (by assumption) (Nat.le_of_ble_eq_true rfl) rfl rfl (fun h27 u27 => ?_)
      have hM1 := xMd_o (Mc' := 0) hM u27
      obtain ⟨g22, g23, g24, g25, g26, g27, g28, g29, g30, g31, g32, g33, g34, g35, g36, g37, g38, g39⟩ := id hM1
      have hxx : (0 : Int32) = 0 ∨ (0 : Int32) = 1 := Or.inl rfl
      refine xg_aload_n xa_M_mend_30 rfl ?_
      refine xg_getfield xa_M_mend_31 (by assumption) rfl ?_
      refine xg_if_le xa_M_mend_34 (fun _ => ?_) (fun c => absurd (by decide) c)
      refine xg_aload_n xa_M_mend_38 rfl ?_
      refine xg_getfield xa_M_mend_39 (by assumption) rfl ?_
      refine xg_iload_n xa_M_mend_42 rfl ?_
      refine xg_iconst (v := 0) xa_M_mend_43 (by decide) ?_
      refine xg_zastf_n xa_M_mend_44 (by assumption) rfl (by assumption) (by decide) (by assumption) (fun h44 u44 => ?_)
      have hM2 := xMd_Mbr (x := false) hM1 u44
      obtain ⟨g22, g23, g24, g25, g26, g27, g28, g29, g30, g31, g32, g33, g34, g35, g36, g37, g38, g39⟩ := id hM2
      refine xg_aload_n xa_M_mend_45 rfl ?_
      refine xg_callV0 xa_M_mend_46 ⟨Nat.le_of_ble_eq_true rfl, Nat.le_of_ble_eq_true rfl, rfl⟩ rfl rfl (by assumption) ?_
      refine c_M_settle hm hM2 (fun h' fl' q1 q2 => xK0_d ?_)
      exact xg_return xa_M_mend_49 (k0 rfl j _ _ hj rfl hne ⟨_, _, _, _, _, _, _, q1, hA, hN⟩ (((u27.toS (by decide) (by decide)).tr (u44.toS (by decide) (by decide))).tr q2))
    · refine xg_iconst (v := 2) xa_M_mend_22 (by decide) ?_
      refine xg_goto xa_M_mend_23 ?_
      exact bad 2 (by decide) (if_pos ((xz0 _).mp c))
  · refine xg_iconst (v := 1) xa_M_mend_9 (by decide) ?_
    refine xg_goto xa_M_mend_10 ?_
    exact bad 1 (by decide) (if_pos (xz1 c))
def cd_hold (x : Int32) : Int32 := if x < 0 ∨ ¬ x ≤ 1000 then 1 else 0
theorem c_M_hold {x : Int32} (hm : Mm ≤ 14) (hM : xMs h Mc Mn Mm Mh Me Ml Mbr Mlk Mt Mg Ma Mb Mw Mwk Msp Mon Mct)
    (k1 : cd_hold x = 1 → ∀ h' fl', xMs h' 1 Mn Mm Mh Me Ml Mbr Mlk Mt Mg Ma Mb Mw Mwk Msp Mon Mct → xS h h' 22 40 → Q (.inl none) (h', ks, fl'))
    (k0 : cd_hold x = 0 → ∀ h' fl', xMs h' 0 Mn Mm x Me Ml Mbr Mlk Mt Mg Ma Mb Mw Mwk Msp (xmix Mt (fun c => (xseF Mm x Mbr Mwk Msp Mon Mct c).1) Mon 12) (xmix Mt (fun c => (xseF Mm x Mbr Mwk Msp Mon Mct c).2) Mct 12) → xS h h' 22 40 → Q (.inl none) (h', ks, fl')) :
    xG xs LS (d + 3) 94 (0, xm_entry xP 94 [.ref 22, .int x], []) (h, ks, fl) Q := by
  show xG xs LS (d + 3) 94 (0, [some (.ref 22), some (.int x)], []) (h, ks, fl) Q
  obtain ⟨Mp, Mfw, Mfs, MS, MZ, MA, MN, hM, hA, hN⟩ := hM
  obtain ⟨g22, g23, g24, g25, g26, g27, g28, g29, g30, g31, g32, g33, g34, g35, g36, g37, g38, g39⟩ := id hM
  unfold cd_hold at k1 k0
  have bad : (x < 0 ∨ ¬ x ≤ 1000) → xG xs LS (d + 3) 94 (12, [some (.ref 22), some (.int x)], [.ref 22]) (h, ks, fl) Q := by
    intro hc
    rw [if_pos hc] at k1
    refine xg_iconst (v := 1) xa_M_hold_12 (by decide) ?_
    refine xg_goto xa_M_hold_13 ?_
    refine xg_putf (fs' := [_, _, _, _, _, _, _, _, _, _, _, _, _, _, _, _, _, _, _, _, _, _, _, _]) xa_M_hold_17 (by assumption) (Nat.le_of_ble_eq_true rfl) rfl rfl (fun h17 u17 => ?_)
    have hM1 := xMd_o (Mc' := 1) hM u17
    obtain ⟨g22, g23, g24, g25, g26, g27, g28, g29, g30, g31, g32, g33, g34, g35, g36, g37, g38, g39⟩ := id hM1
    refine xg_aload_n xa_M_hold_20 rfl ?_
    refine xg_getfield xa_M_hold_21 (by assumption) rfl ?_
    refine xg_if_le xa_M_hold_24 (fun c => absurd c (by decide)) (fun _ => ?_)
    exact xg_return xa_M_hold_27 (k1 rfl _ _ ⟨_, _, _, _, _, _, _, hM1, hA, hN⟩ (u17.toS (by decide) (by decide)))
  refine xg_aload_n xa_M_hold_0 rfl ?_
  refine xg_iload_n xa_M_hold_1 rfl ?_
  refine xg_if_lt xa_M_hold_2 (fun c => bad (Or.inl c)) (fun c2 => ?_)
  refine xg_iload_n xa_M_hold_5 rfl ?_
  refine xg_sipush (v := 1000) xa_M_hold_6 (by decide) ?_
  refine xg_icmp_le xa_M_hold_9 (fun c9 => ?_) (fun c => bad (Or.inr c))
  rw [if_neg (fun q => by
    rcases q with q | q
    · exact c2 q
    · exact q c9)] at k0
  refine xg_iconst (v := 0) xa_M_hold_16 (by decide) ?_
  refine xg_putf (fs' := [_, _, _, _, _, _, _, _, _, _, _, _, _, _, _, _, _, _, _, _, _, _, _, _]) xa_M_hold_17 (by assumption) (Nat.le_of_ble_eq_true rfl) rfl rfl (fun h17 u17 => ?_)
  have hM1 := xMd_o (Mc' := 0) hM u17
  obtain ⟨g22, g23, g24, g25, g26, g27, g28, g29, g30, g31, g32, g33, g34, g35, g36, g37, g38, g39⟩ := id hM1
  refine xg_aload_n xa_M_hold_20 rfl ?_
  refine xg_getfield xa_M_hold_21 (by assumption) rfl ?_
  refine xg_if_le xa_M_hold_24 (fun _ => ?_) (fun c => absurd (by decide) c)
  refine xg_aload_n xa_M_hold_28 rfl ?_
  refine xg_iload_n xa_M_hold_29 rfl ?_
  refine xg_putf (fs' := [_, _, _, _, _, _, _, _, _, _, _, _, _, _, _, _, _, _, _, _, _, _, _, _]) xa_M_hold_30 (by assumption) (Nat.le_of_ble_eq_true rfl) rfl rfl (fun h30 u30 => ?_)
  have hM2 := xMd_o (Mh' := x) hM1 u30
  obtain ⟨g22, g23, g24, g25, g26, g27, g28, g29, g30, g31, g32, g33, g34, g35, g36, g37, g38, g39⟩ := id hM2
  refine xg_aload_n xa_M_hold_33 rfl ?_
  refine xg_callV0 xa_M_hold_34 ⟨Nat.le_of_ble_eq_true rfl, Nat.le_of_ble_eq_true rfl, rfl⟩ rfl rfl (by assumption) ?_
  refine c_M_settle hm hM2 (fun h' fl' q1 q2 => xK0_d ?_)
  exact xg_return xa_M_hold_37 (k0 rfl _ _ ⟨_, _, _, _, _, _, _, q1, hA, hN⟩ (((u17.toS (by decide) (by decide)).tr (u30.toS (by decide) (by decide))).tr q2))
/-- the counts a clock later -/
def xtk (Mm : Nat) (Mbr Mt : Nat → Bool) (Mwk Mon Mct : Nat → Int32) (c : Nat) : Int32 := if Mt c = true ∧ ¬ Mon c = 0 ∧ xwo Mbr (Mwk c) Mm = true then Mct c + 1 else Mct c
abbrev xtkF (Mm : Nat) (Mbr Mt : Nat → Bool) (Mwk Mon Mct : Nat → Int32) : Nat → Int32 := xopn (xtk Mm Mbr Mt Mwk Mon Mct) Mct 12
theorem xopn_at (g f : Nat → Int32) (n : Nat) : xopn g f n n = f n := if_neg (by omega)
theorem c_M_clock (hm : Mm ≤ 14) (hM : xMs h Mc Mn Mm Mh Me Ml Mbr Mlk Mt Mg Ma Mb Mw Mwk Msp Mon Mct)
    (k0 : ∀ h' fl', xMs h' 0 Mn Mm Mh Me Ml Mbr Mlk Mt Mg Ma Mb Mw Mwk Msp (xmix Mt (fun c => (xseF Mm Mh Mbr Mwk Msp Mon (xtkF Mm Mbr Mt Mwk Mon Mct) c).1) Mon 12) (xmix Mt (fun c => (xseF Mm Mh Mbr Mwk Msp Mon (xtkF Mm Mbr Mt Mwk Mon Mct) c).2) (xtkF Mm Mbr Mt Mwk Mon Mct) 12) → xS h h' 22 40 → Q (.inl none) (h', ks, fl')) :
    xG xs LS (d + 3) 95 (0, xm_entry xP 95 [.ref 22], []) (h, ks, fl) Q := by
  show xG xs LS (d + 3) 95 (0, [some (.ref 22), none], []) (h, ks, fl) Q
  obtain ⟨Mp, Mfw, Mfs, MS, MZ, MA, MN, hM, hA, hN⟩ := hM
  obtain ⟨g22, g23, g24, g25, g26, g27, g28, g29, g30, g31, g32, g33, g34, g35, g36, g37, g38, g39⟩ := id hM
  refine xg_aload_n xa_M_clock_0 rfl ?_
  refine xg_iconst (v := 0) xa_M_clock_1 (by decide) ?_
  refine xg_putf (fs' := [_, _, _, _, _, _, _, _, _, _, _, _, _, _, _, _, _, _, _, _, _, _, _, _]) xa_M_clock_2 (by assumption) (Nat.le_of_ble_eq_true rfl) rfl rfl (fun hq2 u2 => ?_)
  have hM1 := xMd_o (Mc' := 0) hM u2
  have loop : ∀ n i h1 fl', i + n = 12 → xMd h1 0 Mn Mm Mh Mp Mfw Mfs Me Ml Mbr Mlk Mt Mg Ma Mb Mw Mwk Msp Mon (xopn (xtk Mm Mbr Mt Mwk Mon Mct) Mct i) MS MZ MA MN → xS h h1 22 40 → xG xs LS (d + 3) 95 (7, [some (.ref 22), some (.int (nI i))], []) (h1, ks, fl') Q := by
    intro n
    induction n with
    | zero =>
      intro i h1 fl' hi hM hS
      have e : i = 12 := by omega
      subst e
      obtain ⟨g22, g23, g24, g25, g26, g27, g28, g29, g30, g31, g32, g33, g34, g35, g36, g37, g38, g39⟩ := id hM
      refine xg_iload_n xa_M_clock_7 rfl ?_
      refine xg_bipush (v := 12) xa_M_clock_8 (by decide) ?_
      refine xg_icmp_ge xa_M_clock_10 (fun _ => ?_) (fun c => absurd (by decide) c)
      refine xg_aload_n xa_M_clock_73 rfl ?_
      refine xg_callV0 xa_M_clock_74 ⟨Nat.le_of_ble_eq_true rfl, Nat.le_of_ble_eq_true rfl, rfl⟩ rfl rfl (by assumption) ?_
      refine c_M_settle hm hM (fun h' fl' q1 q2 => xK0_d ?_)
      exact xg_return xa_M_clock_77 (k0 _ _ ⟨_, _, _, _, _, _, _, q1, hA, hN⟩ (hS.tr q2))
    | succ n ih =>
      intro i h1 fl' hi hM hS
      have hi12 : i < 12 := by omega
      obtain ⟨g22, g23, g24, g25, g26, g27, g28, g29, g30, g31, g32, g33, g34, g35, g36, g37, g38, g39⟩ := id hM
      have next : ∀ v fl', v = xtk Mm Mbr Mt Mwk Mon Mct i → xG xs LS (d + 3) 95 (66, [some (.ref 22), some (.int (nI i))], [.int v, .int (nI i), .ref 35]) (h1, ks, fl') Q := by
        intro v fl' e
        subst e
        refine xg_iastf_n xa_M_clock_66 (by assumption) rfl (by assumption) (by decide) (fun h66 u66 => ?_)
        have hM3 := xMd_Mct hM u66
        rw [← xup_i, xopn_s] at hM3
        refine xg_iinc (L' := [_, _]) xa_M_clock_67 rfl (xi_inc _) rfl ?_
        refine xg_goto xa_M_clock_70 ?_
        exact ih (i + 1) h66 _ (by omega) hM3 (hS.tr (u66.toS (by decide) (by decide)))
      have no : ∀ fl', ¬ (Mt i = true ∧ ¬ Mon i = 0 ∧ xwo Mbr (Mwk i) Mm = true) → xG xs LS (d + 3) 95 (60, [some (.ref 22), some (.int (nI i))], [.int (nI i), .ref 35]) (h1, ks, fl') Q := by
        intro fl' q
        refine xg_aload_n xa_M_clock_60 rfl ?_
        refine xg_getfield xa_M_clock_61 (by assumption) rfl ?_
        refine xg_iload_n xa_M_clock_64 rfl ?_
        refine xg_iald_n xa_M_clock_65 (by assumption) rfl (by assumption) (by decide) ?_
        rw [xopn_at]
        exact next _ _ (by unfold xtk; rw [if_neg q])
      refine xg_iload_n xa_M_clock_7 rfl ?_
      refine xg_bipush (v := 12) xa_M_clock_8 (by decide) ?_
      refine xg_icmp_ge xa_M_clock_10 (fun c => absurd c (show ¬ nI 12 ≤ nI i from nI_ge (by omega) (by omega))) (fun _ => ?_)
      refine xg_aload_n xa_M_clock_13 rfl ?_
      refine xg_getfield xa_M_clock_14 (by assumption) rfl ?_
      refine xg_iload_n xa_M_clock_17 rfl ?_
      refine xg_aload_n xa_M_clock_18 rfl ?_
      refine xg_getfield xa_M_clock_19 (by assumption) rfl ?_
      refine xg_iload_n xa_M_clock_22 rfl ?_
      refine xg_zald_n xa_M_clock_23 (by assumption) rfl (by assumption) (by decide) ?_
      refine xg_if_eq xa_M_clock_24 (fun c => no _ (fun q => by rw [(xz0 _).mp c] at q; cases q.1)) (fun c24 => ?_)
      refine xg_aload_n xa_M_clock_27 rfl ?_
      refine xg_getfield xa_M_clock_28 (by assumption) rfl ?_
      refine xg_iload_n xa_M_clock_31 rfl ?_
      refine xg_iald_n xa_M_clock_32 (by assumption) rfl (by assumption) (by decide) ?_
      refine xg_if_eq xa_M_clock_33 (fun c => no _ (fun q => q.2.1 c)) (fun c33 => ?_)
      refine xg_aload_n xa_M_clock_36 rfl ?_
      refine xg_aload_n xa_M_clock_37 rfl ?_
      refine xg_getfield xa_M_clock_38 (by assumption) rfl ?_
      refine xg_iload_n xa_M_clock_41 rfl ?_
      refine xg_iald_n xa_M_clock_42 (by assumption) rfl (by assumption) (by decide) ?_
      refine xg_callV1 xa_M_clock_43 ⟨Nat.le_of_ble_eq_true rfl, Nat.le_of_ble_eq_true rfl, rfl⟩ rfl rfl (by assumption) ?_
      refine c_M_whole hm hM ?_
      refine xK1_c ?_
      refine xg_if_eq xa_M_clock_46 (fun c => no _ (fun q => by rw [(xz0 _).mp c] at q; cases q.2.2)) (fun c46 => ?_)
      refine xg_aload_n xa_M_clock_49 rfl ?_
      refine xg_getfield xa_M_clock_50 (by assumption) rfl ?_
      refine xg_iload_n xa_M_clock_53 rfl ?_
      refine xg_iald_n xa_M_clock_54 (by assumption) rfl (by assumption) (by decide) ?_
      refine xg_iconst (v := 1) xa_M_clock_55 (by decide) ?_
      refine xg_iadd xa_M_clock_56 rfl ?_
      refine xg_goto xa_M_clock_57 ?_
      rw [xopn_at]
      exact next _ _ (by unfold xtk; rw [if_pos ⟨xz1 c24, c33, xz1 c46⟩])
  refine xg_iconst (v := 0) xa_M_clock_5 (by decide) ?_
  refine xg_istore_n (L' := [_, _]) xa_M_clock_6 (Nat.le_of_ble_eq_true rfl) rfl ?_
  exact loop 12 0 _ _ (by omega) (by rw [xopn_0]; exact hM1) (u2.toS (by decide) (by decide))
theorem xlay_s (F : Nat → Option (Int32 × Int32)) (n w : Nat) : xlay F (n + 1) w = match F w with
    | none => xlay F n (w + 1)
    | some p => some (w, p.1, p.2) := rfl
theorem c_M_move {x : Int32} (hn : Mn ≤ 7) (hm : Mm ≤ 14) (hE : ∀ j, Me j < 7) (hab : ∀ c, c < 12 → Mt c = true → Ma c < Mn ∧ Mb c < Mn ∧ ¬ Ma c = Mb c ∧ Mw c < 4) (hF : ∀ x y s, x < Mn → y < Mn → ¬ x = y → xFok Ml Mm (xPL Me Mm s x y)) (hM : xMs h Mc Mn Mm Mh Me Ml Mbr Mlk Mt Mg Ma Mb Mw Mwk Msp Mon Mct)
    (k1 : cd_conn Mt x = 1 → ∀ h' fl', xMs h' 1 Mn Mm Mh Me Ml Mbr Mlk Mt Mg Ma Mb Mw Mwk Msp Mon Mct → xS h h' 22 40 → Q (.inl (some (.int 0))) (h', ks, fl'))
    (k0 : cd_conn Mt x = 0 → ∀ c h' fl', c < 12 → x = nI c → Mt c = true →
      (xlay (xfw Mm Me Ml Mbr Mlk Mt Mw Mwk Msp (Ma c) (Mb c) (Mg c)) (3 - Mw c) (Mw c + 1) = none → xMs h' 0 Mn Mm Mh Me Ml Mbr Mlk Mt Mg Ma Mb Mw Mwk Msp Mon Mct → xS h h' 22 40 → Q (.inl (some (.int (-1)))) (h', ks, fl')) ∧
      (∀ w wk sp, xlay (xfw Mm Me Ml Mbr Mlk Mt Mw Mwk Msp (Ma c) (Mb c) (Mg c)) (3 - Mw c) (Mw c + 1) = some (w, wk, sp) → xMs h' 0 Mn Mm Mh Me Ml Mbr Mlk Mt Mg Ma Mb (xup Mw c w) (xup Mwk c wk) (xup Msp c sp) (xup Mon c 0) (xup Mct c 0) → xS h h' 22 40 → Q (.inl (some (.int (nI w)))) (h', ks, fl'))) :
    xG xs LS (d + 5) 96 (0, xm_entry xP 96 [.ref 22, .int x], []) (h, ks, fl) Q := by
  show xG xs LS (d + 5) 96 (0, [some (.ref 22), some (.int x), none], []) (h, ks, fl) Q
  obtain ⟨Mp, Mfw, Mfs, MS, MZ, MA, MN, hM, hA, hN⟩ := hM
  obtain ⟨g22, g23, g24, g25, g26, g27, g28, g29, g30, g31, g32, g33, g34, g35, g36, g37, g38, g39⟩ := id hM
  unfold cd_conn at k1 k0
  refine xg_aload_n xa_M_move_0 rfl ?_
  refine xg_aload_n xa_M_move_1 rfl ?_
  refine xg_iload_n xa_M_move_2 rfl ?_
  refine xg_callV1 xa_M_move_3 ⟨Nat.le_of_ble_eq_true rfl, Nat.le_of_ble_eq_true rfl, rfl⟩ rfl rfl (by assumption) ?_
  refine c_M_noConnection hM ?_
  refine xK1_c ?_
  refine xg_if_eq xa_M_move_6 (fun c6 => ?_) (fun c => ?_)
  · have hf := (xz0 _).mp c6
    clear c6
    obtain ⟨c, hc, rfl, ht⟩ := xi_c hf
    obtain ⟨ha, hb, hne, hw4⟩ := hab c hc ht
    rw [if_neg (by rw [hf]; decide)] at k0
    have kk := fun h' fl' => k0 rfl c h' fl' hc rfl ht
    refine xg_iconst (v := 0) xa_M_move_13 (by decide) ?_
    refine xg_putf (fs' := [_, _, _, _, _, _, _, _, _, _, _, _, _, _, _, _, _, _, _, _, _, _, _, _]) xa_M_move_14 (by assumption) (Nat.le_of_ble_eq_true rfl) rfl rfl (fun h14 u14 => ?_)
    have hM1 := xMd_o (Mc' := 0) hM u14
    obtain ⟨g22, g23, g24, g25, g26, g27, g28, g29, g30, g31, g32, g33, g34, g35, g36, g37, g38, g39⟩ := id hM1
    refine xg_aload_n xa_M_move_17 rfl ?_
    refine xg_getfield xa_M_move_18 (by assumption) rfl ?_
    refine xg_if_le xa_M_move_21 (fun _ => ?_) (fun c => absurd (by decide) c)
    have loop : ∀ n w h1 fl', w + n = 4 → xlay (xfw Mm Me Ml Mbr Mlk Mt Mw Mwk Msp (Ma c) (Mb c) (Mg c)) n w = xlay (xfw Mm Me Ml Mbr Mlk Mt Mw Mwk Msp (Ma c) (Mb c) (Mg c)) (3 - Mw c) (Mw c + 1) → xMs h1 0 Mn Mm Mh Me Ml Mbr Mlk Mt Mg Ma Mb Mw Mwk Msp Mon Mct → xS h h1 22 40 → xG xs LS (d + 5) 96 (35, [some (.ref 22), some (.int (nI c)), some (.int (nI w))], []) (h1, ks, fl') Q := by
      intro n
      induction n with
      | zero =>
        intro w h1 fl' hw hl hM hS
        have e : w = 4 := by omega
        subst e
        refine xg_iload_n xa_M_move_35 rfl ?_
        refine xg_iconst (v := 4) xa_M_move_36 (by decide) ?_
        refine xg_icmp_ge xa_M_move_37 (fun c37 => ?_) (fun c37 => absurd (by decide) c37)
        refine xg_iconst (v := (-1)) xa_M_move_80 (by decide) ?_
        refine xg_ireturn xa_M_move_81  ?_
        exact (kk _ _).1 hl.symm hM hS
      | succ n ih =>
        intro w h1 fl' hw hl hM hS
        have hM0 := hM
        obtain ⟨Mp, Mfw, Mfs, MS, MZ, MA, MN, hM, hA, hN⟩ := hM
        obtain ⟨g22, g23, g24, g25, g26, g27, g28, g29, g30, g31, g32, g33, g34, g35, g36, g37, g38, g39⟩ := id hM
        refine xg_iload_n xa_M_move_35 rfl ?_
        refine xg_iconst (v := 4) xa_M_move_36 (by decide) ?_
        refine xg_icmp_ge xa_M_move_37 (fun c => absurd c (show ¬ nI 4 ≤ nI w from nI_ge (by omega) (by omega))) (fun _ => ?_)
        refine xg_aload_n xa_M_move_40 rfl ?_
        refine xg_iload_n xa_M_move_41 rfl ?_
        refine xg_aload_n xa_M_move_42 rfl ?_
        refine xg_getfield xa_M_move_43 (by assumption) rfl ?_
        refine xg_iload_n xa_M_move_46 rfl ?_
        refine xg_iald_n xa_M_move_47 (by assumption) rfl (by assumption) (by decide) ?_
        refine xg_aload_n xa_M_move_48 rfl ?_
        refine xg_getfield xa_M_move_49 (by assumption) rfl ?_
        refine xg_iload_n xa_M_move_52 rfl ?_
        refine xg_iald_n xa_M_move_53 (by assumption) rfl (by assumption) (by decide) ?_
        refine xg_aload_n xa_M_move_54 rfl ?_
        refine xg_getfield xa_M_move_55 (by assumption) rfl ?_
        refine xg_iload_n xa_M_move_58 rfl ?_
        refine xg_zald_n xa_M_move_59 (by assumption) rfl (by assumption) (by decide) ?_
        refine xg_callV1 xa_M_move_60 ⟨Nat.le_of_ble_eq_true rfl, Nat.le_of_ble_eq_true rfl, rfl⟩ rfl rfl (by assumption) ?_
        rw [xlay_s] at hl
        refine c_M_find hm hE (by omega) (by omega) (fun s => hF _ _ s ha hb hne) hM0 (fun h2 fl2 q1 q2 q3 => ?_) (fun h2 fl2 p Mp MS MZ MA MN q1 q2 q3 q4 q5 => ?_)
        · refine xK1_d ?_
          rw [q3] at hl
          refine xg_if_eq xa_M_move_63 (fun _ => ?_) (fun c => absurd rfl c)
          refine xg_iinc (L' := [_, _, _]) xa_M_move_74 rfl (xi_inc _) rfl ?_
          refine xg_goto xa_M_move_77 ?_
          exact ih (w + 1) h2 _ (by omega) hl q1 (hS.tr q2)
        · refine xK1_d ?_
          rw [q5] at hl
          refine xg_if_eq xa_M_move_63 (fun c => absurd c (by decide)) (fun _ => ?_)
          obtain ⟨g22, g23, g24, g25, g26, g27, g28, g29, g30, g31, g32, g33, g34, g35, g36, g37, g38, g39⟩ := id q1
          refine xg_aload_n xa_M_move_66 rfl ?_
          refine xg_iload_n xa_M_move_67 rfl ?_
          refine xg_iload_n xa_M_move_68 rfl ?_
          refine xg_callV0 xa_M_move_69 ⟨Nat.le_of_ble_eq_true rfl, Nat.le_of_ble_eq_true rfl, rfl⟩ rfl rfl (by assumption) ?_
          refine c_M_take hc q1 (fun h5 fl5 r5 s5 => ?_)
          refine xK0_d ?_
          refine xg_iload_n xa_M_move_72 rfl ?_
          exact xg_ireturn xa_M_move_73 ((kk _ _).2 w p.1 p.2 hl.symm ⟨_, _, _, _, _, _, _, r5, q2, q3⟩ ((hS.tr q4).tr s5))
    refine xg_aload_n xa_M_move_26 rfl ?_
    refine xg_getfield xa_M_move_27 (by assumption) rfl ?_
    refine xg_iload_n xa_M_move_30 rfl ?_
    refine xg_iald_n xa_M_move_31 (by assumption) rfl (by assumption) (by decide) ?_
    refine xg_iconst (v := 1) xa_M_move_32 (by decide) ?_
    refine xg_iadd xa_M_move_33 (nI_1 _) ?_
    refine xg_istore_n (L' := [_, _, _]) xa_M_move_34 (Nat.le_of_ble_eq_true rfl) rfl ?_
    exact loop (3 - Mw c) (Mw c + 1) _ _ (by omega) rfl ⟨_, _, _, _, _, _, _, hM1, hA, hN⟩ (u14.toS (by decide) (by decide))
  · rw [if_pos (xz1 c)] at k1
    refine xg_iconst (v := 1) xa_M_move_9 (by decide) ?_
    refine xg_goto xa_M_move_10 ?_
    refine xg_putf (fs' := [_, _, _, _, _, _, _, _, _, _, _, _, _, _, _, _, _, _, _, _, _, _, _, _]) xa_M_move_14 (by assumption) (Nat.le_of_ble_eq_true rfl) rfl rfl (fun h14 u14 => ?_)
    have hM1 := xMd_o (Mc' := 1) hM u14
    obtain ⟨g22, g23, g24, g25, g26, g27, g28, g29, g30, g31, g32, g33, g34, g35, g36, g37, g38, g39⟩ := id hM1
    refine xg_aload_n xa_M_move_17 rfl ?_
    refine xg_getfield xa_M_move_18 (by assumption) rfl ?_
    refine xg_if_le xa_M_move_21 (fun c => absurd c (by decide)) (fun _ => ?_)
    refine xg_iconst (v := 0) xa_M_move_24 (by decide) ?_
    refine xg_ireturn xa_M_move_25  ?_
    exact k1 rfl _ _ ⟨_, _, _, _, _, _, _, hM1, hA, hN⟩ (u14.toS (by decide) (by decide))
def cd_about (t : Nat → Bool) (x y : Int32) : Int32 := if xnC t x = true then 1 else if y < 0 ∨ ¬ y ≤ 6 then 2 else 0
/-- what about answers -/
def xabt (m : Nat) (l : Nat → Nat) (g : Bool) (a b w : Nat) (wk sp on ct : Int32) : Nat → Int32
  | 0 => nI w
  | 1 => nI a
  | 2 => nI b
  | 3 => xlen (fun j => nI (l j)) wk m
  | 4 => if g = true then xlen (fun j => nI (l j)) sp m else -1
  | 5 => on
  | _ => ct
theorem c_M_about {x y : Int32} (hm : Mm ≤ 14) (hM : xMs h Mc Mn Mm Mh Me Ml Mbr Mlk Mt Mg Ma Mb Mw Mwk Msp Mon Mct)
    (k1 : ∀ v, ¬ v = 0 → cd_about Mt x y = v → ∀ h' fl', xMs h' v Mn Mm Mh Me Ml Mbr Mlk Mt Mg Ma Mb Mw Mwk Msp Mon Mct → xS h h' 22 40 → Q (.inl (some (.int 0))) (h', ks, fl'))
    (k0 : cd_about Mt x y = 0 → ∀ c j h' fl', c < 12 → x = nI c → Mt c = true → j ≤ 6 → y = nI j → xMs h' 0 Mn Mm Mh Me Ml Mbr Mlk Mt Mg Ma Mb Mw Mwk Msp Mon Mct → xS h h' 22 40 → Q (.inl (some (.int (xabt Mm Ml (Mg c) (Ma c) (Mb c) (Mw c) (Mwk c) (Msp c) (Mon c) (Mct c) j)))) (h', ks, fl')) :
    xG xs LS (d + 2) 98 (0, xm_entry xP 98 [.ref 22, .int x, .int y], []) (h, ks, fl) Q := by
  show xG xs LS (d + 2) 98 (0, [some (.ref 22), some (.int x), some (.int y)], []) (h, ks, fl) Q
  obtain ⟨Mp, Mfw, Mfs, MS, MZ, MA, MN, hM, hA, hN⟩ := hM
  obtain ⟨g22, g23, g24, g25, g26, g27, g28, g29, g30, g31, g32, g33, g34, g35, g36, g37, g38, g39⟩ := id hM
  unfold cd_about at k1 k0
  have bad : ∀ v, 0 < v → (if xnC Mt x = true then 1 else if y < 0 ∨ ¬ y ≤ 6 then 2 else 0) = v → xG xs LS (d + 2) 98 (28, [some (.ref 22), some (.int x), some (.int y)], [.int v, .ref 22]) (h, ks, fl) Q := by
    intro v hv hc
    have hv0 : ¬ v = 0 := fun q => by rw [q] at hv; exact absurd hv (by decide)
    refine xg_putf (fs' := [_, _, _, _, _, _, _, _, _, _, _, _, _, _, _, _, _, _, _, _, _, _, _, _]) xa_M_about_28 (by assumption) (Nat.le_of_ble_eq_true rfl) rfl rfl (fun h28 u28 => ?_)
    have hM1 := xMd_o (Mc' := v) hM u28
    obtain ⟨g22, g23, g24, g25, g26, g27, g28, g29, g30, g31, g32, g33, g34, g35, g36, g37, g38, g39⟩ := id hM1
    refine xg_aload_n xa_M_about_31 rfl ?_
    refine xg_getfield xa_M_about_32 (by assumption) rfl ?_
    refine xg_if_le xa_M_about_35 (fun c => absurd hv (Int32.not_lt.mpr c)) (fun _ => ?_)
    refine xg_iconst (v := 0) xa_M_about_38 (by decide) ?_
    refine xg_ireturn xa_M_about_39  ?_
    exact k1 v hv0 hc _ _ ⟨_, _, _, _, _, _, _, hM1, hA, hN⟩ (u28.toS (by decide) (by decide))
  refine xg_aload_n xa_M_about_0 rfl ?_
  refine xg_aload_n xa_M_about_1 rfl ?_
  refine xg_iload_n xa_M_about_2 rfl ?_
  refine xg_callV1 xa_M_about_3 ⟨Nat.le_of_ble_eq_true rfl, Nat.le_of_ble_eq_true rfl, rfl⟩ rfl rfl (by assumption) ?_
  refine c_M_noConnection hM ?_
  refine xK1_c ?_
  refine xg_if_eq xa_M_about_6 (fun c6 => ?_) (fun c => ?_)
  · have hf := (xz0 _).mp c6
    clear c6
    obtain ⟨c, hc, rfl, ht⟩ := xi_c hf
    rw [if_neg (by rw [hf]; decide)] at k0 bad
    have bad2 : (y < 0 ∨ ¬ y ≤ 6) → xG xs LS (d + 2) 98 (23, [some (.ref 22), some (.int (nI c)), some (.int y)], [.ref 22]) (h, ks, fl) Q := by
      intro q
      refine xg_iconst (v := 2) xa_M_about_23 (by decide) ?_
      refine xg_goto xa_M_about_24 ?_
      exact bad 2 (by decide) (if_pos q)
    refine xg_iload_n xa_M_about_13 rfl ?_
    refine xg_if_lt xa_M_about_14 (fun c => bad2 (Or.inl c)) (fun c14 => ?_)
    refine xg_iload_n xa_M_about_17 rfl ?_
    refine xg_bipush (v := 6) xa_M_about_18 (by decide) ?_
    refine xg_icmp_le xa_M_about_20 (fun c20 => ?_) (fun c => bad2 (Or.inr c))
    rw [if_neg (fun q => by
      rcases q with q | q
      · exact c14 q
      · exact q c20)] at k0
    obtain ⟨j, hj, rfl⟩ := nI_of2 (M := 6) (n := 6) (by decide) c14 c20
    refine xg_iconst (v := 0) xa_M_about_27 (by decide) ?_
    refine xg_putf (fs' := [_, _, _, _, _, _, _, _, _, _, _, _, _, _, _, _, _, _, _, _, _, _, _, _]) xa_M_about_28 (by assumption) (Nat.le_of_ble_eq_true rfl) rfl rfl (fun h28 u28 => ?_)
    have hM1 := xMd_o (Mc' := 0) hM u28
    obtain ⟨g22, g23, g24, g25, g26, g27, g28, g29, g30, g31, g32, g33, g34, g35, g36, g37, g38, g39⟩ := id hM1
    have kk := fun fl' => k0 rfl c j h28 fl' hc rfl ht hj rfl ⟨_, _, _, _, _, _, _, hM1, hA, hN⟩ (u28.toS (by decide) (by decide))
    clear k0 k1 bad bad2
    refine xg_aload_n xa_M_about_31 rfl ?_
    refine xg_getfield xa_M_about_32 (by assumption) rfl ?_
    refine xg_if_le xa_M_about_35 (fun _ => ?_) (fun c => absurd (by decide) c)
    refine xg_iload_n xa_M_about_40 rfl ?_
    have cases : j = 0 ∨ j = 1 ∨ j = 2 ∨ j = 3 ∨ j = 4 ∨ j = 5 ∨ j = 6 := by omega
    rcases cases with rfl | rfl | rfl | rfl | rfl | rfl | rfl
    · refine xg_tableIn (t := 80) (off := 39) xa_M_about_41 (by decide) (by decide) (by decide) ?_
      refine xg_aload_n xa_M_about_80 rfl ?_
      refine xg_getfield xa_M_about_81 (by assumption) rfl ?_
      refine xg_iload_n xa_M_about_84 rfl ?_
      refine xg_iald_n xa_M_about_85 (by assumption) rfl (by assumption) (by decide) ?_
      refine xg_ireturn xa_M_about_86  ?_
      exact kk _
    · refine xg_tableIn (t := 87) (off := 46) xa_M_about_41 (by decide) (by decide) (by decide) ?_
      refine xg_aload_n xa_M_about_87 rfl ?_
      refine xg_getfield xa_M_about_88 (by assumption) rfl ?_
      refine xg_iload_n xa_M_about_91 rfl ?_
      refine xg_iald_n xa_M_about_92 (by assumption) rfl (by assumption) (by decide) ?_
      refine xg_ireturn xa_M_about_93  ?_
      exact kk _
    · refine xg_tableIn (t := 94) (off := 53) xa_M_about_41 (by decide) (by decide) (by decide) ?_
      refine xg_aload_n xa_M_about_94 rfl ?_
      refine xg_getfield xa_M_about_95 (by assumption) rfl ?_
      refine xg_iload_n xa_M_about_98 rfl ?_
      refine xg_iald_n xa_M_about_99 (by assumption) rfl (by assumption) (by decide) ?_
      refine xg_ireturn xa_M_about_100  ?_
      exact kk _
    · refine xg_tableIn (t := 101) (off := 60) xa_M_about_41 (by decide) (by decide) (by decide) ?_
      refine xg_aload_n xa_M_about_101 rfl ?_
      refine xg_aload_n xa_M_about_102 rfl ?_
      refine xg_getfield xa_M_about_103 (by assumption) rfl ?_
      refine xg_iload_n xa_M_about_106 rfl ?_
      refine xg_iald_n xa_M_about_107 (by assumption) rfl (by assumption) (by decide) ?_
      refine xg_callV1 xa_M_about_108 ⟨Nat.le_of_ble_eq_true rfl, Nat.le_of_ble_eq_true rfl, rfl⟩ rfl rfl (by assumption) ?_
      refine c_M_lengthOf hM1 hm ?_
      refine xK1_c ?_
      refine xg_ireturn xa_M_about_111  ?_
      exact kk _
    · refine xg_tableIn (t := 112) (off := 71) xa_M_about_41 (by decide) (by decide) (by decide) ?_
      refine xg_aload_n xa_M_about_112 rfl ?_
      refine xg_getfield xa_M_about_113 (by assumption) rfl ?_
      refine xg_iload_n xa_M_about_116 rfl ?_
      refine xg_zald_n xa_M_about_117 (by assumption) rfl (by assumption) (by decide) ?_
      refine xg_if_eq xa_M_about_118 (fun c => ?_) (fun c => ?_)
      · have hg := (xz0 _).mp c
        have kk' : ∀ fl', Q (.inl (some (.int (-1)))) (h28, ks, fl') := fun fl' => by
          have := kk fl'
          unfold xabt at this
          rw [hg] at this
          exact this
        refine xg_iconst (v := (-1)) xa_M_about_134 (by decide) ?_
        refine xg_ireturn xa_M_about_135  ?_
        exact kk' _
      · have hg := xz1 c
        have kk' : ∀ fl', Q (.inl (some (.int (xlen (fun j => nI (Ml j)) (Msp _) Mm)))) (h28, ks, fl') := fun fl' => by
          have := kk fl'
          unfold xabt at this
          rw [hg] at this
          exact this
        refine xg_aload_n xa_M_about_121 rfl ?_
        refine xg_aload_n xa_M_about_122 rfl ?_
        refine xg_getfield xa_M_about_123 (by assumption) rfl ?_
        refine xg_iload_n xa_M_about_126 rfl ?_
        refine xg_iald_n xa_M_about_127 (by assumption) rfl (by assumption) (by decide) ?_
        refine xg_callV1 xa_M_about_128 ⟨Nat.le_of_ble_eq_true rfl, Nat.le_of_ble_eq_true rfl, rfl⟩ rfl rfl (by assumption) ?_
        refine c_M_lengthOf hM1 hm ?_
        refine xK1_c ?_
        refine xg_goto xa_M_about_131 ?_
        refine xg_ireturn xa_M_about_135  ?_
        exact kk' _
    · refine xg_tableIn (t := 136) (off := 95) xa_M_about_41 (by decide) (by decide) (by decide) ?_
      refine xg_aload_n xa_M_about_136 rfl ?_
      refine xg_getfield xa_M_about_137 (by assumption) rfl ?_
      refine xg_iload_n xa_M_about_140 rfl ?_
      refine xg_iald_n xa_M_about_141 (by assumption) rfl (by assumption) (by decide) ?_
      refine xg_ireturn xa_M_about_142  ?_
      exact kk _
    · refine xg_tableOut (t := 143) xa_M_about_41 (by decide) (by decide) ?_
      refine xg_aload_n xa_M_about_143 rfl ?_
      refine xg_getfield xa_M_about_144 (by assumption) rfl ?_
      refine xg_iload_n xa_M_about_147 rfl ?_
      refine xg_iald_n xa_M_about_148 (by assumption) rfl (by assumption) (by decide) ?_
      refine xg_ireturn xa_M_about_149  ?_
      exact kk _
  · refine xg_iconst (v := 1) xa_M_about_9 (by decide) ?_
    refine xg_goto xa_M_about_10 ?_
    exact bad 1 (by decide) (if_pos (xz1 c))
def cd_user (m : Nat) (x y : Int32) : Int32 := if xnS m x = true ∨ y < 0 ∨ ¬ y ≤ 3 then 1 else 0
theorem c_M_user {x y : Int32} (hm : Mm ≤ 14) (hM : xMs h Mc Mn Mm Mh Me Ml Mbr Mlk Mt Mg Ma Mb Mw Mwk Msp Mon Mct)
    (k1 : cd_user Mm x y = 1 → ∀ h' fl', xMs h' 1 Mn Mm Mh Me Ml Mbr Mlk Mt Mg Ma Mb Mw Mwk Msp Mon Mct → xS h h' 22 40 → Q (.inl (some (.int 0))) (h', ks, fl'))
    (k0 : cd_user Mm x y = 0 → ∀ f w h' fl', f < Mm → x = nI f → w < 4 → y = nI w → xMs h' 0 Mn Mm Mh Me Ml Mbr Mlk Mt Mg Ma Mb Mw Mwk Msp Mon Mct → xS h h' 22 40 → Q (.inl (some (.int (xo (xusr Mt Mw Mwk Msp f w))))) (h', ks, fl')) :
    xG xs LS (d + 2) 99 (0, xm_entry xP 99 [.ref 22, .int x, .int y], []) (h, ks, fl) Q := by
  show xG xs LS (d + 2) 99 (0, [some (.ref 22), some (.int x), some (.int y)], []) (h, ks, fl) Q
  obtain ⟨Mp, Mfw, Mfs, MS, MZ, MA, MN, hM, hA, hN⟩ := hM
  obtain ⟨g22, g23, g24, g25, g26, g27, g28, g29, g30, g31, g32, g33, g34, g35, g36, g37, g38, g39⟩ := id hM
  unfold cd_user at k1 k0
  have bad : (xnS Mm x = true ∨ y < 0 ∨ ¬ y ≤ 3) → xG xs LS (d + 2) 99 (18, [some (.ref 22), some (.int x), some (.int y)], [.ref 22]) (h, ks, fl) Q := by
    intro q
    rw [if_pos q] at k1
    refine xg_iconst (v := 1) xa_M_user_18 (by decide) ?_
    refine xg_goto xa_M_user_19 ?_
    refine xg_putf (fs' := [_, _, _, _, _, _, _, _, _, _, _, _, _, _, _, _, _, _, _, _, _, _, _, _]) xa_M_user_23 (by assumption) (Nat.le_of_ble_eq_true rfl) rfl rfl (fun h23 u23 => ?_)
    have hM1 := xMd_o (Mc' := 1) hM u23
    obtain ⟨g22, g23, g24, g25, g26, g27, g28, g29, g30, g31, g32, g33, g34, g35, g36, g37, g38, g39⟩ := id hM1
    refine xg_aload_n xa_M_user_26 rfl ?_
    refine xg_getfield xa_M_user_27 (by assumption) rfl ?_
    refine xg_if_le xa_M_user_30 (fun c => absurd c (by decide)) (fun _ => ?_)
    refine xg_iconst (v := 0) xa_M_user_33 (by decide) ?_
    refine xg_goto xa_M_user_34 ?_
    refine xg_ireturn xa_M_user_43  ?_
    exact k1 rfl _ _ ⟨_, _, _, _, _, _, _, hM1, hA, hN⟩ (u23.toS (by decide) (by decide))
  refine xg_aload_n xa_M_user_0 rfl ?_
  refine xg_aload_n xa_M_user_1 rfl ?_
  refine xg_iload_n xa_M_user_2 rfl ?_
  refine xg_callV1 xa_M_user_3 ⟨Nat.le_of_ble_eq_true rfl, Nat.le_of_ble_eq_true rfl, rfl⟩ rfl rfl (by assumption) ?_
  refine c_M_noFibre hM ?_
  refine xK1_c ?_
  refine xg_if_ne xa_M_user_6 (fun c => bad (Or.inl (xz1 c))) (fun c6 => ?_)
  refine xg_iload_n xa_M_user_9 rfl ?_
  refine xg_if_lt xa_M_user_10 (fun c => bad (Or.inr (Or.inl c))) (fun c10 => ?_)
  refine xg_iload_n xa_M_user_13 rfl ?_
  refine xg_iconst (v := 3) xa_M_user_14 (by decide) ?_
  refine xg_icmp_le xa_M_user_15 (fun c15 => ?_) (fun c => bad (Or.inr (Or.inr c)))
  have hf := (xz0 _).mp c6
  obtain ⟨f, hf14, rfl⟩ := xi_s (by omega) hf
  rw [if_neg (fun q => by
    rcases q with q | q | q
    · rw [hf] at q; cases q
    · exact c10 q
    · exact q c15)] at k0
  obtain ⟨w, hw, rfl⟩ := nI_of2 (M := 3) (n := 3) (by decide) c10 c15
  refine xg_iconst (v := 0) xa_M_user_22 (by decide) ?_
  refine xg_putf (fs' := [_, _, _, _, _, _, _, _, _, _, _, _, _, _, _, _, _, _, _, _, _, _, _, _]) xa_M_user_23 (by assumption) (Nat.le_of_ble_eq_true rfl) rfl rfl (fun h23 u23 => ?_)
  have hM1 := xMd_o (Mc' := 0) hM u23
  obtain ⟨g22, g23, g24, g25, g26, g27, g28, g29, g30, g31, g32, g33, g34, g35, g36, g37, g38, g39⟩ := id hM1
  refine xg_aload_n xa_M_user_26 rfl ?_
  refine xg_getfield xa_M_user_27 (by assumption) rfl ?_
  refine xg_if_le xa_M_user_30 (fun _ => ?_) (fun c => absurd (by decide) c)
  refine xg_aload_n xa_M_user_37 rfl ?_
  refine xg_iload_n xa_M_user_38 rfl ?_
  refine xg_iload_n xa_M_user_39 rfl ?_
  refine xg_callV1 xa_M_user_40 ⟨Nat.le_of_ble_eq_true rfl, Nat.le_of_ble_eq_true rfl, rfl⟩ rfl rfl (by assumption) ?_
  refine c_M_userOf hM1 (by omega) ?_
  refine xK1_c ?_
  refine xg_ireturn xa_M_user_43  ?_
  exact k0 rfl f w _ _ hf14 rfl (by omega) rfl ⟨_, _, _, _, _, _, _, hM1, hA, hN⟩ (u23.toS (by decide) (by decide))
def cd_fits (n : Nat) (a b : Int32) : Int32 := if xnS n a = true ∨ xnS n b = true then 1 else if a = b then 2 else 0
/-- on how many of the first wavelengths something is found -/
def xfit (F : Nat → Option (Int32 × Int32)) : Nat → Nat
  | 0 => 0
  | n + 1 => if F n = none then xfit F n else xfit F n + 1
theorem c_M_fits {a b : Int32} (hn : Mn ≤ 7) (hm : Mm ≤ 14) (hE : ∀ j, Me j < 7) (hF : ∀ x y s, x < Mn → y < Mn → ¬ x = y → xFok Ml Mm (xPL Me Mm s x y)) (hM : xMs h Mc Mn Mm Mh Me Ml Mbr Mlk Mt Mg Ma Mb Mw Mwk Msp Mon Mct)
    (k1 : ∀ v, ¬ v = 0 → cd_fits Mn a b = v → ∀ h' fl', xMs h' v Mn Mm Mh Me Ml Mbr Mlk Mt Mg Ma Mb Mw Mwk Msp Mon Mct → xS h h' 22 40 → Q (.inl (some (.int 0))) (h', ks, fl'))
    (k0 : cd_fits Mn a b = 0 → ∀ x y h' fl', x < Mn → y < Mn → ¬ x = y → a = nI x → b = nI y → xMs h' 0 Mn Mm Mh Me Ml Mbr Mlk Mt Mg Ma Mb Mw Mwk Msp Mon Mct → xS h h' 22 40 → Q (.inl (some (.int (nI (xfit (xfw Mm Me Ml Mbr Mlk Mt Mw Mwk Msp x y true) 4))))) (h', ks, fl')) :
    xG xs LS (d + 5) 100 (0, xm_entry xP 100 [.ref 22, .int a, .int b], []) (h, ks, fl) Q := by
  show xG xs LS (d + 5) 100 (0, [some (.ref 22), some (.int a), some (.int b), none, none], []) (h, ks, fl) Q
  obtain ⟨Mp, Mfw, Mfs, MS, MZ, MA, MN, hM, hA, hN⟩ := hM
  obtain ⟨g22, g23, g24, g25, g26, g27, g28, g29, g30, g31, g32, g33, g34, g35, g36, g37, g38, g39⟩ := id hM
  have bad : ∀ v, 0 < v → cd_fits Mn a b = v → xG xs LS (d + 5) 100 (31, [some (.ref 22), some (.int a), some (.int b), none, none], [.int v, .ref 22]) (h, ks, fl) Q := by
    intro v hv hc
    have hv0 : ¬ v = 0 := fun q => by rw [q] at hv; exact absurd hv (by decide)
    refine xg_putf (fs' := [_, _, _, _, _, _, _, _, _, _, _, _, _, _, _, _, _, _, _, _, _, _, _, _]) xa_M_fits_31 (by assumption) (Nat.le_of_ble_eq_true rfl) rfl rfl (fun h31 u31 => ?_)
    have hM1 := xMd_o (Mc' := v) hM u31
    obtain ⟨g22, g23, g24, g25, g26, g27, g28, g29, g30, g31, g32, g33, g34, g35, g36, g37, g38, g39⟩ := id hM1
    refine xg_aload_n xa_M_fits_34 rfl ?_
    refine xg_getfield xa_M_fits_35 (by assumption) rfl ?_
    refine xg_if_le xa_M_fits_38 (fun c => absurd hv (Int32.not_lt.mpr c)) (fun _ => ?_)
    refine xg_iconst (v := 0) xa_M_fits_41 (by decide) ?_
    refine xg_ireturn xa_M_fits_42  ?_
    exact k1 v hv0 hc _ _ ⟨_, _, _, _, _, _, _, hM1, hA, hN⟩ (u31.toS (by decide) (by decide))
  have bad1 : (xnS Mn a = true ∨ xnS Mn b = true) → xG xs LS (d + 5) 100 (17, [some (.ref 22), some (.int a), some (.int b), none, none], [.ref 22]) (h, ks, fl) Q := by
    intro hc
    refine xg_iconst (v := 1) xa_M_fits_17 (by decide) ?_
    refine xg_goto xa_M_fits_18 ?_
    exact bad 1 (by decide) (by unfold cd_fits; rw [if_pos hc])
  refine xg_aload_n xa_M_fits_0 rfl ?_
  refine xg_aload_n xa_M_fits_1 rfl ?_
  refine xg_iload_n xa_M_fits_2 rfl ?_
  refine xg_callV1 xa_M_fits_3 ⟨Nat.le_of_ble_eq_true rfl, Nat.le_of_ble_eq_true rfl, rfl⟩ rfl rfl (by assumption) ?_
  refine c_M_noSite hM ?_
  refine xK1_c ?_
  refine xg_if_ne xa_M_fits_6 (fun c => bad1 (Or.inl (xz1 c))) (fun c6 => ?_)
  refine xg_aload_n xa_M_fits_9 rfl ?_
  refine xg_iload_n xa_M_fits_10 rfl ?_
  refine xg_callV1 xa_M_fits_11 ⟨Nat.le_of_ble_eq_true rfl, Nat.le_of_ble_eq_true rfl, rfl⟩ rfl rfl (by assumption) ?_
  refine c_M_noSite hM ?_
  refine xK1_c ?_
  refine xg_if_eq xa_M_fits_14 (fun c14 => ?_) (fun c => bad1 (Or.inr (xz1 c)))
  have n1 : ¬ (xnS Mn a = true ∨ xnS Mn b = true) := fun q => by
    rw [(xz0 _).mp c6, (xz0 _).mp c14] at q
    rcases q with q | q <;> cases q
  refine xg_iload_n xa_M_fits_21 rfl ?_
  refine xg_iload_n xa_M_fits_22 rfl ?_
  refine xg_icmp_ne xa_M_fits_23 (fun c23 => ?_) (fun c => ?_)
  · have e0 : cd_fits Mn a b = 0 := by unfold cd_fits; rw [if_neg n1, if_neg c23]
    obtain ⟨x, hx, rfl⟩ := xi_s (by omega) ((xz0 _).mp c6)
    obtain ⟨y, hy, rfl⟩ := xi_s (by omega) ((xz0 _).mp c14)
    have hxy : ¬ x = y := fun q => c23 (by rw [q])
    have kk := fun h' fl' => k0 e0 x y h' fl' hx hy hxy rfl rfl
    clear k0 k1 bad bad1
    refine xg_iconst (v := 0) xa_M_fits_30 (by decide) ?_
    refine xg_putf (fs' := [_, _, _, _, _, _, _, _, _, _, _, _, _, _, _, _, _, _, _, _, _, _, _, _]) xa_M_fits_31 (by assumption) (Nat.le_of_ble_eq_true rfl) rfl rfl (fun h31 u31 => ?_)
    have hM1 := xMd_o (Mc' := 0) hM u31
    obtain ⟨g22, g23, g24, g25, g26, g27, g28, g29, g30, g31, g32, g33, g34, g35, g36, g37, g38, g39⟩ := id hM1
    refine xg_aload_n xa_M_fits_34 rfl ?_
    refine xg_getfield xa_M_fits_35 (by assumption) rfl ?_
    refine xg_if_le xa_M_fits_38 (fun _ => ?_) (fun c => absurd (by decide) c)
    have loop : ∀ n w h1 fl', w + n = 4 → xMs h1 0 Mn Mm Mh Me Ml Mbr Mlk Mt Mg Ma Mb Mw Mwk Msp Mon Mct → xS h h1 22 40 → xG xs LS (d + 5) 100 (48, [some (.ref 22), some (.int (nI x)), some (.int (nI y)), some (.int (nI (xfit (xfw Mm Me Ml Mbr Mlk Mt Mw Mwk Msp x y true) w))), some (.int (nI w))], []) (h1, ks, fl') Q := by
      intro n
      induction n with
      | zero =>
        intro w h1 fl' hw hM hS
        have e : w = 4 := by omega
        subst e
        refine xg_iload xa_M_fits_48 rfl ?_
        refine xg_iconst (v := 4) xa_M_fits_50 (by decide) ?_
        refine xg_icmp_ge xa_M_fits_51 (fun c51 => ?_) (fun c51 => absurd (by decide) c51)
        refine xg_iload_n xa_M_fits_78 rfl ?_
        refine xg_ireturn xa_M_fits_79  ?_
        exact kk _ _ hM hS
      | succ n ih =>
        intro w h1 fl' hw hM hS
        have hM0 := hM
        obtain ⟨Mp, Mfw, Mfs, MS, MZ, MA, MN, hM, hA, hN⟩ := hM
        obtain ⟨g22, g23, g24, g25, g26, g27, g28, g29, g30, g31, g32, g33, g34, g35, g36, g37, g38, g39⟩ := id hM
        have ex : xfit (xfw Mm Me Ml Mbr Mlk Mt Mw Mwk Msp x y true) (w + 1) = if xfw Mm Me Ml Mbr Mlk Mt Mw Mwk Msp x y true w = none then xfit (xfw Mm Me Ml Mbr Mlk Mt Mw Mwk Msp x y true) w else xfit (xfw Mm Me Ml Mbr Mlk Mt Mw Mwk Msp x y true) w + 1 := rfl
        refine xg_iload xa_M_fits_48 rfl ?_
        refine xg_iconst (v := 4) xa_M_fits_50 (by decide) ?_
        refine xg_icmp_ge xa_M_fits_51 (fun c => absurd c (show ¬ nI 4 ≤ nI w from nI_ge (by omega) (by omega))) (fun _ => ?_)
        refine xg_aload_n xa_M_fits_54 rfl ?_
        refine xg_aload_n xa_M_fits_55 rfl ?_
        refine xg_iload xa_M_fits_56 rfl ?_
        refine xg_callV1 xa_M_fits_58 ⟨Nat.le_of_ble_eq_true rfl, Nat.le_of_ble_eq_true rfl, rfl⟩ rfl rfl (by assumption) ?_
        refine c_M_free hM hm ?_
        refine xK1_c ?_
        refine xg_iload_n xa_M_fits_61 rfl ?_
        refine xg_iload_n xa_M_fits_62 rfl ?_
        refine xg_callV1 xa_M_fits_63 ⟨Nat.le_of_ble_eq_true rfl, Nat.le_of_ble_eq_true rfl, rfl⟩ rfl rfl (by assumption) ?_
        refine c_M_findPair' hm hE (by omega) (by omega) (hF x y _ hx hy hxy) hM0 (fun h2 fl2 q1 q2 q3 => ?_) (fun h2 fl2 p Mp MS MZ MA MN q1 q2 q3 q4 q5 => ?_)
        · refine xK1_d ?_
          rw [if_pos q3] at ex
          refine xg_if_eq xa_M_fits_66 (fun _ => ?_) (fun c => absurd rfl c)
          refine xg_iinc (L' := [_, _, _, _, _]) xa_M_fits_72 rfl (xi_inc _) rfl ?_
          refine xg_goto xa_M_fits_75 ?_
          rw [← ex]
          exact ih (w + 1) h2 _ (by omega) q1 (hS.tr q2)
        · refine xK1_d ?_
          rw [if_neg (fun q => by rw [show xfw Mm Me Ml Mbr Mlk Mt Mw Mwk Msp x y true w = some p from q5] at q; cases q)] at ex
          refine xg_if_eq xa_M_fits_66 (fun c => absurd c (by decide)) (fun _ => ?_)
          refine xg_iinc (L' := [_, _, _, _, _]) xa_M_fits_69 rfl (xi_inc _) rfl ?_
          refine xg_iinc (L' := [_, _, _, _, _]) xa_M_fits_72 rfl (xi_inc _) rfl ?_
          refine xg_goto xa_M_fits_75 ?_
          rw [← ex]
          exact ih (w + 1) h2 _ (by omega) ⟨_, _, _, _, _, _, _, q1, q2, q3⟩ (hS.tr q4)
    refine xg_iconst (v := 0) xa_M_fits_43 (by decide) ?_
    refine xg_istore_n (L' := [_, _, _, _, _]) xa_M_fits_44 (Nat.le_of_ble_eq_true rfl) rfl ?_
    refine xg_iconst (v := 0) xa_M_fits_45 (by decide) ?_
    refine xg_istore (L' := [_, _, _, _, _]) xa_M_fits_46 (Nat.le_of_ble_eq_true rfl) rfl ?_
    exact loop 4 0 _ _ (by omega) ⟨_, _, _, _, _, _, _, hM1, hA, hN⟩ (u31.toS (by decide) (by decide))
  · refine xg_iconst (v := 2) xa_M_fits_26 (by decide) ?_
    refine xg_goto xa_M_fits_27 ?_
    exact bad 2 (by decide) (by unfold cd_fits; rw [if_neg n1, if_pos c])
def cd_bridge (n : Nat) (a b w : Int32) : Int32 := if xnS n a = true ∨ xnS n b = true ∨ w < 0 ∨ ¬ w ≤ 3 then 1 else if a = b then 2 else 0
/-- the fibres that are in s and in all the paths -/
def xshr (s : Int32) (S : Nat → Int32) : Nat → Int32
  | 0 => s
  | p + 1 => xshr s S p &&& S p
theorem xshr_congr {s : Int32} {S S' : Nat → Int32} : ∀ n, (∀ i, i < n → S i = S' i) → xshr s S n = xshr s S' n := by
  intro n
  induction n with
  | zero => intro _; rfl
  | succ n ih =>
    intro hS
    unfold xshr
    rw [ih (fun i hi => hS i (by omega)), hS n (by omega)]
/-- bridge: the first of the shared ones, by the paths L among s -/
def xbrg (m : Nat) (s : Int32) (L : List Int32) : Int32 := if L.length = 0 then -1 else match xfst (xb (xshr s (xLS L) L.length)) m 0 with
  | none => -2
  | some f => nI f
theorem c_M_bridge {a b w : Int32} (hn : Mn ≤ 7) (hm : Mm ≤ 14) (hE : ∀ j, Me j < 7) (hF : ∀ x y s, x < Mn → y < Mn → ¬ x = y → xFok Ml Mm (xPL Me Mm s x y)) (hM : xMs h Mc Mn Mm Mh Me Ml Mbr Mlk Mt Mg Ma Mb Mw Mwk Msp Mon Mct)
    (k1 : ∀ v, ¬ v = 0 → cd_bridge Mn a b w = v → ∀ h' fl', xMs h' v Mn Mm Mh Me Ml Mbr Mlk Mt Mg Ma Mb Mw Mwk Msp Mon Mct → xS h h' 22 40 → Q (.inl (some (.int 0))) (h', ks, fl'))
    (k0 : cd_bridge Mn a b w = 0 → ∀ x y z h' fl', x < Mn → y < Mn → ¬ x = y → z < 4 → a = nI x → b = nI y → w = nI z → xMs h' 0 Mn Mm Mh Me Ml Mbr Mlk Mt Mg Ma Mb Mw Mwk Msp Mon Mct → xS h h' 22 40 → Q (.inl (some (.int (xbrg Mm (xfre Mbr Mlk Mt Mw Mwk Msp z Mm) (xPL Me Mm (xfre Mbr Mlk Mt Mw Mwk Msp z Mm) x y))))) (h', ks, fl')) :
    xG xs LS (d + 5) 101 (0, xm_entry xP 101 [.ref 22, .int a, .int b, .int w], []) (h, ks, fl) Q := by
  show xG xs LS (d + 5) 101 (0, [some (.ref 22), some (.int a), some (.int b), some (.int w), none, none, none], []) (h, ks, fl) Q
  obtain ⟨Mp, Mfw, Mfs, MS, MZ, MA, MN, hM, hA, hN⟩ := hM
  obtain ⟨g22, g23, g24, g25, g26, g27, g28, g29, g30, g31, g32, g33, g34, g35, g36, g37, g38, g39⟩ := id hM
  have bad : ∀ v, 0 < v → cd_bridge Mn a b w = v → xG xs LS (d + 5) 101 (40, [some (.ref 22), some (.int a), some (.int b), some (.int w), none, none, none], [.int v, .ref 22]) (h, ks, fl) Q := by
    intro v hv hc
    have hv0 : ¬ v = 0 := fun q => by rw [q] at hv; exact absurd hv (by decide)
    refine xg_putf (fs' := [_, _, _, _, _, _, _, _, _, _, _, _, _, _, _, _, _, _, _, _, _, _, _, _]) xa_M_bridge_40 (by assumption) (Nat.le_of_ble_eq_true rfl) rfl rfl (fun h40 u40 => ?_)
    have hM1 := xMd_o (Mc' := v) hM u40
    obtain ⟨g22, g23, g24, g25, g26, g27, g28, g29, g30, g31, g32, g33, g34, g35, g36, g37, g38, g39⟩ := id hM1
    refine xg_aload_n xa_M_bridge_43 rfl ?_
    refine xg_getfield xa_M_bridge_44 (by assumption) rfl ?_
    refine xg_if_le xa_M_bridge_47 (fun c => absurd hv (Int32.not_lt.mpr c)) (fun _ => ?_)
    refine xg_iconst (v := 0) xa_M_bridge_50 (by decide) ?_
    refine xg_ireturn xa_M_bridge_51  ?_
    exact k1 v hv0 hc _ _ ⟨_, _, _, _, _, _, _, hM1, hA, hN⟩ (u40.toS (by decide) (by decide))
  have bad1 : (xnS Mn a = true ∨ xnS Mn b = true ∨ w < 0 ∨ ¬ w ≤ 3) → xG xs LS (d + 5) 101 (26, [some (.ref 22), some (.int a), some (.int b), some (.int w), none, none, none], [.ref 22]) (h, ks, fl) Q := by
    intro hc
    refine xg_iconst (v := 1) xa_M_bridge_26 (by decide) ?_
    refine xg_goto xa_M_bridge_27 ?_
    exact bad 1 (by decide) (by unfold cd_bridge; rw [if_pos hc])
  refine xg_aload_n xa_M_bridge_0 rfl ?_
  refine xg_aload_n xa_M_bridge_1 rfl ?_
  refine xg_iload_n xa_M_bridge_2 rfl ?_
  refine xg_callV1 xa_M_bridge_3 ⟨Nat.le_of_ble_eq_true rfl, Nat.le_of_ble_eq_true rfl, rfl⟩ rfl rfl (by assumption) ?_
  refine c_M_noSite hM ?_
  refine xK1_c ?_
  refine xg_if_ne xa_M_bridge_6 (fun c => bad1 (Or.inl (xz1 c))) (fun c6 => ?_)
  refine xg_aload_n xa_M_bridge_9 rfl ?_
  refine xg_iload_n xa_M_bridge_10 rfl ?_
  refine xg_callV1 xa_M_bridge_11 ⟨Nat.le_of_ble_eq_true rfl, Nat.le_of_ble_eq_true rfl, rfl⟩ rfl rfl (by assumption) ?_
  refine c_M_noSite hM ?_
  refine xK1_c ?_
  refine xg_if_ne xa_M_bridge_14 (fun c => bad1 (Or.inr (Or.inl (xz1 c)))) (fun c14 => ?_)
  refine xg_iload_n xa_M_bridge_17 rfl ?_
  refine xg_if_lt xa_M_bridge_18 (fun c => bad1 (Or.inr (Or.inr (Or.inl c)))) (fun c18 => ?_)
  refine xg_iload_n xa_M_bridge_21 rfl ?_
  refine xg_iconst (v := 3) xa_M_bridge_22 (by decide) ?_
  refine xg_icmp_le xa_M_bridge_23 (fun c23 => ?_) (fun c => bad1 (Or.inr (Or.inr (Or.inr c))))
  have n1 : ¬ (xnS Mn a = true ∨ xnS Mn b = true ∨ w < 0 ∨ ¬ w ≤ 3) := fun q => by
    rw [(xz0 _).mp c6, (xz0 _).mp c14] at q
    rcases q with q | q | q | q
    · cases q
    · cases q
    · exact c18 q
    · exact q c23
  refine xg_iload_n xa_M_bridge_30 rfl ?_
  refine xg_iload_n xa_M_bridge_31 rfl ?_
  refine xg_icmp_ne xa_M_bridge_32 (fun c32 => ?_) (fun c => ?_)
  · have e0 : cd_bridge Mn a b w = 0 := by unfold cd_bridge; rw [if_neg n1, if_neg c32]
    obtain ⟨x, hx, rfl⟩ := xi_s (by omega) ((xz0 _).mp c6)
    obtain ⟨y, hy, rfl⟩ := xi_s (by omega) ((xz0 _).mp c14)
    obtain ⟨z, hz, rfl⟩ := nI_of2 (M := 3) (n := 3) (by decide) c18 c23
    have hxy : ¬ x = y := fun q => c32 (by rw [q])
    have kk := fun h' fl' => k0 e0 x y z h' fl' hx hy hxy (by omega) rfl rfl rfl
    clear k0 k1 bad bad1
    refine xg_iconst (v := 0) xa_M_bridge_39 (by decide) ?_
    refine xg_putf (fs' := [_, _, _, _, _, _, _, _, _, _, _, _, _, _, _, _, _, _, _, _, _, _, _, _]) xa_M_bridge_40 (by assumption) (Nat.le_of_ble_eq_true rfl) rfl rfl (fun h40 u40 => ?_)
    have hM1 := xMd_o (Mc' := 0) hM u40
    obtain ⟨g22, g23, g24, g25, g26, g27, g28, g29, g30, g31, g32, g33, g34, g35, g36, g37, g38, g39⟩ := id hM1
    refine xg_aload_n xa_M_bridge_43 rfl ?_
    refine xg_getfield xa_M_bridge_44 (by assumption) rfl ?_
    refine xg_if_le xa_M_bridge_47 (fun _ => ?_) (fun c => absurd (by decide) c)
    refine xg_aload_n xa_M_bridge_52 rfl ?_
    refine xg_iload_n xa_M_bridge_53 rfl ?_
    refine xg_callV1 xa_M_bridge_54 ⟨Nat.le_of_ble_eq_true rfl, Nat.le_of_ble_eq_true rfl, rfl⟩ rfl rfl (by assumption) ?_
    refine c_M_free hM1 hm ?_
    refine xK1_c ?_
    refine xg_istore (L' := [_, _, _, _, _, _, _]) xa_M_bridge_57 (Nat.le_of_ble_eq_true rfl) rfl ?_
    refine xg_aload_n xa_M_bridge_59 rfl ?_
    refine xg_iload xa_M_bridge_60 rfl ?_
    refine xg_iload_n xa_M_bridge_62 rfl ?_
    refine xg_iload_n xa_M_bridge_63 rfl ?_
    refine xg_callV0 xa_M_bridge_64 ⟨Nat.le_of_ble_eq_true rfl, Nat.le_of_ble_eq_true rfl, rfl⟩ rfl rfl (by assumption) ?_
    have hFs := hF x y (xfre Mbr Mlk Mt Mw Mwk Msp z Mm) hx hy hxy
    generalize xfre Mbr Mlk Mt Mw Mwk Msp z Mm = s at *
    refine c_M_list hm hE (by omega) (by omega) hA hN hFs.1 hM1 (fun h' fl' S Z A N hM' hS' hSZ hA' hN' => xK0_d ?_)
    have kk := fun fl' => kk h' fl' ⟨_, _, _, _, _, _, _, hM', hA', hN'⟩ ((u40.toS (by decide) (by decide)).tr hS')
    have hSe := xSZ_eq hSZ
    unfold xbrg at kk
    generalize hL : xPL Me Mm s x y = L at *
    have hl4 := hFs.1
    obtain ⟨g22, g23, g24, g25, g26, g27, g28, g29, g30, g31, g32, g33, g34, g35, g36, g37, g38, g39⟩ := id hM'
    refine xg_aload_n xa_M_bridge_67 rfl ?_
    refine xg_getfield xa_M_bridge_68 (by assumption) rfl ?_
    refine xg_if_ne xa_M_bridge_71 (fun c71 => ?_) (fun c71 => ?_)
    · have hl0 : ¬ L.length = 0 := fun q => c71 (by rw [q]; rfl)
      rw [if_neg hl0] at kk
      have loop2 : ∀ n i fl', i + n = Mm → (∀ fl', Q (.inl (some (.int (match xfst (xb (xshr s S L.length)) n i with | none => -2 | some f => nI f)))) (h', ks, fl')) → xG xs LS (d + 5) 101 (113, [some (.ref 22), some (.int (nI x)), some (.int (nI y)), some (.int (nI z)), some (.int s), some (.int (xshr s S L.length)), some (.int (nI i))], []) (h', ks, fl') Q := by
        intro n
        induction n with
        | zero =>
          intro i fl' hi kz
          have e : i = Mm := by omega
          subst e
          refine xg_iload xa_M_bridge_113 rfl ?_
          refine xg_aload_n xa_M_bridge_115 rfl ?_
          refine xg_getfield xa_M_bridge_116 (by assumption) rfl ?_
          refine xg_icmp_ge xa_M_bridge_119 (fun c119 => ?_) (fun c119 => absurd (nI_le (by omega) (by omega)) c119)
          refine xg_bipush (v := (-2)) xa_M_bridge_142 (by decide) ?_
          refine xg_ireturn xa_M_bridge_144  ?_
          exact kz _
        | succ n ih =>
          intro i fl' hi kz
          unfold xfst at kz
          refine xg_iload xa_M_bridge_113 rfl ?_
          refine xg_aload_n xa_M_bridge_115 rfl ?_
          refine xg_getfield xa_M_bridge_116 (by assumption) rfl ?_
          refine xg_icmp_ge xa_M_bridge_119 (fun c => absurd c (nI_ge (by omega) (by omega))) (fun _ => ?_)
          refine xg_iload xa_M_bridge_122 rfl ?_
          refine xg_iload xa_M_bridge_124 rfl ?_
          refine xg_callS1 xa_M_bridge_126 ⟨Nat.le_of_ble_eq_true rfl, Nat.le_of_ble_eq_true rfl, rfl⟩ rfl rfl ?_
          refine c_M_bit (by omega) ?_
          refine xK1_c ?_
          refine xg_iconst (v := 1) xa_M_bridge_129 (by decide) ?_
          refine xg_icmp_ne xa_M_bridge_130 (fun c => ?_) (fun c => ?_)
          · have hb : ¬ xb (xshr s S L.length) i = true := fun q => c (by rw [q]; rfl)
            rw [if_neg hb] at kz
            refine xg_iinc (L' := [_, _, _, _, _, _, _]) xa_M_bridge_136 rfl (xi_inc _) rfl ?_
            refine xg_goto xa_M_bridge_139 ?_
            exact ih (i + 1) _ (by omega) kz
          · have hb : xb (xshr s S L.length) i = true := xz_inj.mp c
            rw [if_pos hb] at kz
            refine xg_iload xa_M_bridge_133 rfl ?_
            refine xg_ireturn xa_M_bridge_135  ?_
            exact kz _
      have loop1 : ∀ n p fl', p + n = L.length → xG xs LS (d + 5) 101 (83, [some (.ref 22), some (.int (nI x)), some (.int (nI y)), some (.int (nI z)), some (.int s), some (.int (xshr s S p)), some (.int (nI p))], []) (h', ks, fl') Q := by
        intro n
        induction n with
        | zero =>
          intro p fl' hp
          have e : p = L.length := by omega
          subst e
          refine xg_iload xa_M_bridge_83 rfl ?_
          refine xg_aload_n xa_M_bridge_85 rfl ?_
          refine xg_getfield xa_M_bridge_86 (by assumption) rfl ?_
          refine xg_icmp_ge xa_M_bridge_89 (fun _ => ?_) (fun c => absurd (nI_le (by omega) (by omega)) c)
          refine xg_iconst (v := 0) xa_M_bridge_110 (by decide) ?_
          refine xg_istore (L' := [_, _, _, _, _, _, _]) xa_M_bridge_111 (Nat.le_of_ble_eq_true rfl) rfl ?_
          refine loop2 Mm 0 _ (by omega) ?_
          rw [xshr_congr _ (fun i hi => (hSe i hi).1)]
          exact kk
        | succ n ih =>
          intro p fl' hp
          have hp4 : p < 4000 := by omega
          refine xg_iload xa_M_bridge_83 rfl ?_
          refine xg_aload_n xa_M_bridge_85 rfl ?_
          refine xg_getfield xa_M_bridge_86 (by assumption) rfl ?_
          refine xg_icmp_ge xa_M_bridge_89 (fun c => absurd c (nI_ge (by omega) (by omega))) (fun _ => ?_)
          refine xg_iload xa_M_bridge_92 rfl ?_
          refine xg_aload_n xa_M_bridge_94 rfl ?_
          refine xg_getfield xa_M_bridge_95 (by assumption) rfl ?_
          refine xg_iload xa_M_bridge_98 rfl ?_
          refine xg_iald_n xa_M_bridge_100 (by assumption) rfl (by assumption) (by decide) ?_
          refine xg_iand xa_M_bridge_101 rfl ?_
          refine xg_istore (L' := [_, _, _, _, _, _, _]) xa_M_bridge_102 (Nat.le_of_ble_eq_true rfl) rfl ?_
          refine xg_iinc (L' := [_, _, _, _, _, _, _]) xa_M_bridge_104 rfl (xi_inc _) rfl ?_
          refine xg_goto xa_M_bridge_107 ?_
          exact ih (p + 1) _ (by omega)
      refine xg_iload xa_M_bridge_76 rfl ?_
      refine xg_istore (L' := [_, _, _, _, _, _, _]) xa_M_bridge_78 (Nat.le_of_ble_eq_true rfl) rfl ?_
      refine xg_iconst (v := 0) xa_M_bridge_80 (by decide) ?_
      refine xg_istore (L' := [_, _, _, _, _, _, _]) xa_M_bridge_81 (Nat.le_of_ble_eq_true rfl) rfl ?_
      exact loop1 L.length 0 _ (by omega)
    · have hl0 : L.length = 0 := (nI_eq (by omega) (by omega)).mp (show nI L.length = nI 0 from c71)
      rw [if_pos hl0] at kk
      refine xg_iconst (v := (-1)) xa_M_bridge_74 (by decide) ?_
      refine xg_ireturn xa_M_bridge_75  ?_
      exact kk _
  · refine xg_iconst (v := 2) xa_M_bridge_35 (by decide) ?_
    refine xg_goto xa_M_bridge_36 ?_
    exact bad 2 (by decide) (by unfold cd_bridge; rw [if_neg n1, if_pos c])
/-- how many of the first n hold -/
def xcnt (p : Nat → Bool) : Nat → Nat
  | 0 => 0
  | n + 1 => if p n = true then xcnt p n + 1 else xcnt p n
abbrev xexp (t g : Nat → Bool) (on : Nat → Int32) (c : Nat) : Bool := t c && g c && decide (on c = 2)
theorem c_M_exposed (hM : xMs h Mc Mn Mm Mh Me Ml Mbr Mlk Mt Mg Ma Mb Mw Mwk Msp Mon Mct) (k : ∀ h' fl', xMs h' 0 Mn Mm Mh Me Ml Mbr Mlk Mt Mg Ma Mb Mw Mwk Msp Mon Mct → xS h h' 22 40 → Q (.inl (some (.int (nI (xcnt (xexp Mt Mg Mon) 12))))) (h', ks, fl')) :
    xG xs LS d 102 (0, xm_entry xP 102 [.ref 22], []) (h, ks, fl) Q := by
  show xG xs LS d 102 (0, [some (.ref 22), none, none], []) (h, ks, fl) Q
  obtain ⟨Mp, Mfw, Mfs, MS, MZ, MA, MN, hM, hA, hN⟩ := hM
  obtain ⟨g22, g23, g24, g25, g26, g27, g28, g29, g30, g31, g32, g33, g34, g35, g36, g37, g38, g39⟩ := id hM
  refine xg_aload_n xa_M_exposed_0 rfl ?_
  refine xg_iconst (v := 0) xa_M_exposed_1 (by decide) ?_
  refine xg_putf (fs' := [_, _, _, _, _, _, _, _, _, _, _, _, _, _, _, _, _, _, _, _, _, _, _, _]) xa_M_exposed_2 (by assumption) (Nat.le_of_ble_eq_true rfl) rfl rfl (fun hq2 u2 => ?_)
  have hM1 := xMd_o (Mc' := 0) hM u2
  have k := fun fl' => k hq2 fl' ⟨_, _, _, _, _, _, _, hM1, hA, hN⟩ (u2.toS (by decide) (by decide))
  obtain ⟨g22, g23, g24, g25, g26, g27, g28, g29, g30, g31, g32, g33, g34, g35, g36, g37, g38, g39⟩ := id hM1
  have loop : ∀ n i fl', i + n = 12 → xG xs LS d 102 (9, [some (.ref 22), some (.int (nI (xcnt (xexp Mt Mg Mon) i))), some (.int (nI i))], []) (hq2, ks, fl') Q := by
    intro n
    induction n with
    | zero =>
      intro i fl' hi
      have e : i = 12 := by omega
      subst e
      refine xg_iload_n xa_M_exposed_9 rfl ?_
      refine xg_bipush (v := 12) xa_M_exposed_10 (by decide) ?_
      refine xg_icmp_ge xa_M_exposed_12 (fun c12 => ?_) (fun c12 => absurd (by decide) c12)
      refine xg_iload_n xa_M_exposed_52 rfl ?_
      refine xg_ireturn xa_M_exposed_53  ?_
      exact k _
    | succ n ih =>
      intro i fl' hi
      have hi12 : i < 12 := by omega
      have ex : xcnt (xexp Mt Mg Mon) (i + 1) = if xexp Mt Mg Mon i = true then xcnt (xexp Mt Mg Mon) i + 1 else xcnt (xexp Mt Mg Mon) i := rfl
      have no : ∀ fl', xexp Mt Mg Mon i = false → xG xs LS d 102 (46, [some (.ref 22), some (.int (nI (xcnt (xexp Mt Mg Mon) i))), some (.int (nI i))], []) (hq2, ks, fl') Q := by
        intro fl' q
        rw [if_neg (by rw [q]; decide)] at ex
        refine xg_iinc (L' := [_, _, _]) xa_M_exposed_46 rfl (xi_inc _) rfl ?_
        refine xg_goto xa_M_exposed_49 ?_
        rw [← ex]
        exact ih (i + 1) _ (by omega)
      unfold xexp at no
      refine xg_iload_n xa_M_exposed_9 rfl ?_
      refine xg_bipush (v := 12) xa_M_exposed_10 (by decide) ?_
      refine xg_icmp_ge xa_M_exposed_12 (fun c => absurd c (show ¬ nI 12 ≤ nI i from nI_ge (by omega) (by omega))) (fun _ => ?_)
      refine xg_aload_n xa_M_exposed_15 rfl ?_
      refine xg_getfield xa_M_exposed_16 (by assumption) rfl ?_
      refine xg_iload_n xa_M_exposed_19 rfl ?_
      refine xg_zald_n xa_M_exposed_20 (by assumption) rfl (by assumption) (by decide) ?_
      refine xg_if_eq xa_M_exposed_21 (fun c => no _ (by rw [(xz0 _).mp c]; rfl)) (fun c21 => ?_)
      refine xg_aload_n xa_M_exposed_24 rfl ?_
      refine xg_getfield xa_M_exposed_25 (by assumption) rfl ?_
      refine xg_iload_n xa_M_exposed_28 rfl ?_
      refine xg_zald_n xa_M_exposed_29 (by assumption) rfl (by assumption) (by decide) ?_
      refine xg_if_eq xa_M_exposed_30 (fun c => no _ (by rw [(xz0 _).mp c]; simp)) (fun c30 => ?_)
      refine xg_aload_n xa_M_exposed_33 rfl ?_
      refine xg_getfield xa_M_exposed_34 (by assumption) rfl ?_
      refine xg_iload_n xa_M_exposed_37 rfl ?_
      refine xg_iald_n xa_M_exposed_38 (by assumption) rfl (by assumption) (by decide) ?_
      refine xg_iconst (v := 2) xa_M_exposed_39 (by decide) ?_
      refine xg_icmp_ne xa_M_exposed_40 (fun c => no _ (by rw [decide_eq_false c]; simp)) (fun c40 => ?_)
      rw [if_pos (show xexp Mt Mg Mon i = true by unfold xexp; rw [xz1 c21, xz1 c30, decide_eq_true c40]; rfl)] at ex
      refine xg_iinc (L' := [_, _, _]) xa_M_exposed_43 rfl (xi_inc _) rfl ?_
      refine xg_iinc (L' := [_, _, _]) xa_M_exposed_46 rfl (xi_inc _) rfl ?_
      refine xg_goto xa_M_exposed_49 ?_
      rw [← ex]
      exact ih (i + 1) _ (by omega)
  refine xg_iconst (v := 0) xa_M_exposed_5 (by decide) ?_
  refine xg_istore_n (L' := [_, _, _]) xa_M_exposed_6 (Nat.le_of_ble_eq_true rfl) rfl ?_
  refine xg_iconst (v := 0) xa_M_exposed_7 (by decide) ?_
  refine xg_istore_n (L' := [_, _, _]) xa_M_exposed_8 (Nat.le_of_ble_eq_true rfl) rfl ?_
  exact loop 12 0 _ (by omega)
def cd_count (x : Int32) : Int32 := if x < 0 ∨ ¬ x ≤ 4 then 1 else 0
/-- what count answers -/
def xcou (n m : Nat) (t br lk : Nat → Bool) : Nat → Nat
  | 0 => n
  | 1 => m
  | 2 => xcnt t 12
  | 3 => xcnt br m
  | _ => xcnt lk m
theorem c_M_count {x : Int32} (hm : Mm ≤ 14) (hM : xMs h Mc Mn Mm Mh Me Ml Mbr Mlk Mt Mg Ma Mb Mw Mwk Msp Mon Mct)
    (k1 : cd_count x = 1 → ∀ h' fl', xMs h' 1 Mn Mm Mh Me Ml Mbr Mlk Mt Mg Ma Mb Mw Mwk Msp Mon Mct → xS h h' 22 40 → Q (.inl (some (.int 0))) (h', ks, fl'))
    (k0 : cd_count x = 0 → ∀ j h' fl', j ≤ 4 → x = nI j → xMs h' 0 Mn Mm Mh Me Ml Mbr Mlk Mt Mg Ma Mb Mw Mwk Msp Mon Mct → xS h h' 22 40 → Q (.inl (some (.int (nI (xcou Mn Mm Mt Mbr Mlk j))))) (h', ks, fl')) :
    xG xs LS d 103 (0, xm_entry xP 103 [.ref 22, .int x], []) (h, ks, fl) Q := by
  show xG xs LS d 103 (0, [some (.ref 22), some (.int x), none, none, none, none], []) (h, ks, fl) Q
  obtain ⟨Mp, Mfw, Mfs, MS, MZ, MA, MN, hM, hA, hN⟩ := hM
  obtain ⟨g22, g23, g24, g25, g26, g27, g28, g29, g30, g31, g32, g33, g34, g35, g36, g37, g38, g39⟩ := id hM
  unfold cd_count at k1 k0
  have bad : (x < 0 ∨ ¬ x ≤ 4) → xG xs LS d 103 (10, [some (.ref 22), some (.int x), none, none, none, none], [.ref 22]) (h, ks, fl) Q := by
    intro hc
    rw [if_pos hc] at k1
    refine xg_iconst (v := 1) xa_M_count_10 (by decide) ?_
    refine xg_goto xa_M_count_11 ?_
    refine xg_putf (fs' := [_, _, _, _, _, _, _, _, _, _, _, _, _, _, _, _, _, _, _, _, _, _, _, _]) xa_M_count_15 (by assumption) (Nat.le_of_ble_eq_true rfl) rfl rfl (fun h15 u15 => ?_)
    have hM1 := xMd_o (Mc' := 1) hM u15
    obtain ⟨g22, g23, g24, g25, g26, g27, g28, g29, g30, g31, g32, g33, g34, g35, g36, g37, g38, g39⟩ := id hM1
    refine xg_aload_n xa_M_count_18 rfl ?_
    refine xg_getfield xa_M_count_19 (by assumption) rfl ?_
    refine xg_if_le xa_M_count_22 (fun c => absurd c (by decide)) (fun _ => ?_)
    refine xg_iconst (v := 0) xa_M_count_25 (by decide) ?_
    refine xg_ireturn xa_M_count_26  ?_
    exact k1 rfl _ _ ⟨_, _, _, _, _, _, _, hM1, hA, hN⟩ (u15.toS (by decide) (by decide))
  refine xg_aload_n xa_M_count_0 rfl ?_
  refine xg_iload_n xa_M_count_1 rfl ?_
  refine xg_if_lt xa_M_count_2 (fun c => bad (Or.inl c)) (fun c2 => ?_)
  refine xg_iload_n xa_M_count_5 rfl ?_
  refine xg_iconst (v := 4) xa_M_count_6 (by decide) ?_
  refine xg_icmp_le xa_M_count_7 (fun c9 => ?_) (fun c => bad (Or.inr c))
  rw [if_neg (fun q => by
    rcases q with q | q
    · exact c2 q
    · exact q c9)] at k0
  obtain ⟨j, hj, rfl⟩ := nI_of2 (M := 4) (n := 4) (by decide) c2 c9
  refine xg_iconst (v := 0) xa_M_count_14 (by decide) ?_
  refine xg_putf (fs' := [_, _, _, _, _, _, _, _, _, _, _, _, _, _, _, _, _, _, _, _, _, _, _, _]) xa_M_count_15 (by assumption) (Nat.le_of_ble_eq_true rfl) rfl rfl (fun h15 u15 => ?_)
  have hM1 := xMd_o (Mc' := 0) hM u15
  have k := fun fl' => k0 rfl j h15 fl' hj rfl ⟨_, _, _, _, _, _, _, hM1, hA, hN⟩ (u15.toS (by decide) (by decide))
  clear bad k0 k1
  obtain ⟨g22, g23, g24, g25, g26, g27, g28, g29, g30, g31, g32, g33, g34, g35, g36, g37, g38, g39⟩ := id hM1
  refine xg_aload_n xa_M_count_18 rfl ?_
  refine xg_getfield xa_M_count_19 (by assumption) rfl ?_
  refine xg_if_le xa_M_count_22 (fun _ => ?_) (fun c => absurd (by decide) c)
  have fin : ∀ fl' j5, xG xs LS d 103 (120, [some (.ref 22), some (.int (nI j)), some (.int (nI (xcnt Mt 12))), some (.int (nI (xcnt Mbr Mm))), some (.int (nI (xcnt Mlk Mm))), j5], []) (h15, ks, fl') Q := by
    intro fl' j5
    have cases : j = 0 ∨ j = 1 ∨ j = 2 ∨ j = 3 ∨ j = 4 := by omega
    rcases cases with rfl | rfl | rfl | rfl | rfl
    · refine xg_iload_n xa_M_count_120 rfl ?_
      refine xg_if_ne xa_M_count_121 (fun c121 => absurd rfl c121) (fun c121 => ?_)
      refine xg_aload_n xa_M_count_124 rfl ?_
      refine xg_getfield xa_M_count_125 (by assumption) rfl ?_
      refine xg_goto xa_M_count_128 ?_
      refine xg_ireturn xa_M_count_163  ?_
      exact k _
    · refine xg_iload_n xa_M_count_120 rfl ?_
      refine xg_if_ne xa_M_count_121 (fun c121 => ?_) (fun c121 => absurd c121 (by decide))
      refine xg_iload_n xa_M_count_131 rfl ?_
      refine xg_iconst (v := 1) xa_M_count_132 (by decide) ?_
      refine xg_icmp_ne xa_M_count_133 (fun c133 => absurd rfl c133) (fun c133 => ?_)
      refine xg_aload_n xa_M_count_136 rfl ?_
      refine xg_getfield xa_M_count_137 (by assumption) rfl ?_
      refine xg_goto xa_M_count_140 ?_
      refine xg_ireturn xa_M_count_163  ?_
      exact k _
    · refine xg_iload_n xa_M_count_120 rfl ?_
      refine xg_if_ne xa_M_count_121 (fun c121 => ?_) (fun c121 => absurd c121 (by decide))
      refine xg_iload_n xa_M_count_131 rfl ?_
      refine xg_iconst (v := 1) xa_M_count_132 (by decide) ?_
      refine xg_icmp_ne xa_M_count_133 (fun c133 => ?_) (fun c133 => absurd c133 (by decide))
      refine xg_iload_n xa_M_count_143 rfl ?_
      refine xg_iconst (v := 2) xa_M_count_144 (by decide) ?_
      refine xg_icmp_ne xa_M_count_145 (fun c145 => absurd rfl c145) (fun c145 => ?_)
      refine xg_iload_n xa_M_count_148 rfl ?_
      refine xg_goto xa_M_count_149 ?_
      refine xg_ireturn xa_M_count_163  ?_
      exact k _
    · refine xg_iload_n xa_M_count_120 rfl ?_
      refine xg_if_ne xa_M_count_121 (fun c121 => ?_) (fun c121 => absurd c121 (by decide))
      refine xg_iload_n xa_M_count_131 rfl ?_
      refine xg_iconst (v := 1) xa_M_count_132 (by decide) ?_
      refine xg_icmp_ne xa_M_count_133 (fun c133 => ?_) (fun c133 => absurd c133 (by decide))
      refine xg_iload_n xa_M_count_143 rfl ?_
      refine xg_iconst (v := 2) xa_M_count_144 (by decide) ?_
      refine xg_icmp_ne xa_M_count_145 (fun c145 => ?_) (fun c145 => absurd c145 (by decide))
      refine xg_iload_n xa_M_count_152 rfl ?_
      refine xg_iconst (v := 3) xa_M_count_153 (by decide) ?_
      refine xg_icmp_ne xa_M_count_154 (fun c154 => absurd rfl c154) (fun c154 => ?_)
      refine xg_iload_n xa_M_count_157 rfl ?_
      refine xg_goto xa_M_count_158 ?_
      refine xg_ireturn xa_M_count_163  ?_
      exact k _
    · refine xg_iload_n xa_M_count_120 rfl ?_
      refine xg_if_ne xa_M_count_121 (fun c121 => ?_) (fun c121 => absurd c121 (by decide))
      refine xg_iload_n xa_M_count_131 rfl ?_
      refine xg_iconst (v := 1) xa_M_count_132 (by decide) ?_
      refine xg_icmp_ne xa_M_count_133 (fun c133 => ?_) (fun c133 => absurd c133 (by decide))
      refine xg_iload_n xa_M_count_143 rfl ?_
      refine xg_iconst (v := 2) xa_M_count_144 (by decide) ?_
      refine xg_icmp_ne xa_M_count_145 (fun c145 => ?_) (fun c145 => absurd c145 (by decide))
      refine xg_iload_n xa_M_count_152 rfl ?_
      refine xg_iconst (v := 3) xa_M_count_153 (by decide) ?_
      refine xg_icmp_ne xa_M_count_154 (fun c154 => ?_) (fun c154 => absurd c154 (by decide))
      refine xg_iload xa_M_count_161 rfl ?_
      refine xg_ireturn xa_M_count_163  ?_
      exact k _
  have loop2 : ∀ n i fl', i + n = Mm → xG xs LS d 103 (66, [some (.ref 22), some (.int (nI j)), some (.int (nI (xcnt Mt 12))), some (.int (nI (xcnt Mbr i))), some (.int (nI (xcnt Mlk i))), some (.int (nI i))], []) (h15, ks, fl') Q := by
    intro n
    induction n with
    | zero =>
      intro i fl' hi
      have e : i = Mm := by omega
      subst e
      refine xg_iload xa_M_count_66 rfl ?_
      refine xg_aload_n xa_M_count_68 rfl ?_
      refine xg_getfield xa_M_count_69 (by assumption) rfl ?_
      refine xg_icmp_ge xa_M_count_72 (fun c72 => ?_) (fun c72 => absurd (nI_le (by omega) (by omega)) c72)
      exact fin _ _
    | succ n ih =>
      intro i fl' hi
      have hi14 : i < 14 := by omega
      have e1 : xcnt Mbr (i + 1) = if Mbr i = true then xcnt Mbr i + 1 else xcnt Mbr i := rfl
      have e2 : xcnt Mlk (i + 1) = if Mlk i = true then xcnt Mlk i + 1 else xcnt Mlk i := rfl
      have second : ∀ fl', xG xs LS d 103 (92, [some (.ref 22), some (.int (nI j)), some (.int (nI (xcnt Mt 12))), some (.int (nI (xcnt Mbr i))), some (.int (nI (xcnt Mlk i))), some (.int (nI i))], [.int (nI (xcnt Mbr (i + 1)))]) (h15, ks, fl') Q := by
        intro fl'
        refine xg_istore_n (L' := [_, _, _, _, _, _]) xa_M_count_92 (Nat.le_of_ble_eq_true rfl) rfl ?_
        refine xg_aload_n xa_M_count_93 rfl ?_
        refine xg_getfield xa_M_count_94 (by assumption) rfl ?_
        refine xg_iload xa_M_count_97 rfl ?_
        refine xg_zald_n xa_M_count_99 (by assumption) rfl (by assumption) (by decide) ?_
        refine xg_if_eq xa_M_count_100 (fun c => ?_) (fun c => ?_)
        · rw [if_neg (by rw [(xz0 _).mp c]; decide)] at e2
          refine xg_iload xa_M_count_110 rfl ?_
          refine xg_istore (L' := [_, _, _, _, _, _]) xa_M_count_112 (Nat.le_of_ble_eq_true rfl) rfl ?_
          refine xg_iinc (L' := [_, _, _, _, _, _]) xa_M_count_114 rfl (xi_inc _) rfl ?_
          refine xg_goto xa_M_count_117 ?_
          rw [← e2]
          exact ih (i + 1) _ (by omega)
        · rw [if_pos (xz1 c)] at e2
          refine xg_iload xa_M_count_103 rfl ?_
          refine xg_iconst (v := 1) xa_M_count_105 (by decide) ?_
          refine xg_iadd xa_M_count_106 (nI_1 _) ?_
          refine xg_goto xa_M_count_107 ?_
          refine xg_istore (L' := [_, _, _, _, _, _]) xa_M_count_112 (Nat.le_of_ble_eq_true rfl) rfl ?_
          refine xg_iinc (L' := [_, _, _, _, _, _]) xa_M_count_114 rfl (xi_inc _) rfl ?_
          refine xg_goto xa_M_count_117 ?_
          rw [← e2]
          exact ih (i + 1) _ (by omega)
      refine xg_iload xa_M_count_66 rfl ?_
      refine xg_aload_n xa_M_count_68 rfl ?_
      refine xg_getfield xa_M_count_69 (by assumption) rfl ?_
      refine xg_icmp_ge xa_M_count_72 (fun c => absurd c (nI_ge (by omega) (by omega))) (fun _ => ?_)
      refine xg_aload_n xa_M_count_75 rfl ?_
      refine xg_getfield xa_M_count_76 (by assumption) rfl ?_
      refine xg_iload xa_M_count_79 rfl ?_
      refine xg_zald_n xa_M_count_81 (by assumption) rfl (by assumption) (by decide) ?_
      refine xg_if_eq xa_M_count_82 (fun c => ?_) (fun c => ?_)
      · rw [if_neg (by rw [(xz0 _).mp c]; decide)] at e1
        rw [e1] at second
        refine xg_iload_n xa_M_count_91 rfl ?_
        exact second _
      · rw [if_pos (xz1 c)] at e1
        rw [e1] at second
        refine xg_iload_n xa_M_count_85 rfl ?_
        refine xg_iconst (v := 1) xa_M_count_86 (by decide) ?_
        refine xg_iadd xa_M_count_87 (nI_1 _) ?_
        refine xg_goto xa_M_count_88 ?_
        exact second _
  have loop1 : ∀ n i fl', i + n = 12 → xG xs LS d 103 (37, [some (.ref 22), some (.int (nI j)), some (.int (nI (xcnt Mt i))), some (.int 0), some (.int 0), some (.int (nI i))], []) (h15, ks, fl') Q := by
    intro n
    induction n with
    | zero =>
      intro i fl' hi
      have e : i = 12 := by omega
      subst e
      refine xg_iload xa_M_count_37 rfl ?_
      refine xg_bipush (v := 12) xa_M_count_39 (by decide) ?_
      refine xg_icmp_ge xa_M_count_41 (fun c41 => ?_) (fun c41 => absurd (by decide) c41)
      refine xg_iconst (v := 0) xa_M_count_63 (by decide) ?_
      refine xg_istore (L' := [_, _, _, _, _, _]) xa_M_count_64 (Nat.le_of_ble_eq_true rfl) rfl ?_
      exact loop2 Mm 0 _ (by omega)
    | succ n ih =>
      intro i fl' hi
      have hi12 : i < 12 := by omega
      have e1 : xcnt Mt (i + 1) = if Mt i = true then xcnt Mt i + 1 else xcnt Mt i := rfl
      refine xg_iload xa_M_count_37 rfl ?_
      refine xg_bipush (v := 12) xa_M_count_39 (by decide) ?_
      refine xg_icmp_ge xa_M_count_41 (fun c => absurd c (show ¬ nI 12 ≤ nI i from nI_ge (by omega) (by omega))) (fun _ => ?_)
      refine xg_aload_n xa_M_count_44 rfl ?_
      refine xg_getfield xa_M_count_45 (by assumption) rfl ?_
      refine xg_iload xa_M_count_48 rfl ?_
      refine xg_zald_n xa_M_count_50 (by assumption) rfl (by assumption) (by decide) ?_
      refine xg_if_eq xa_M_count_51 (fun c => ?_) (fun c => ?_)
      · rw [if_neg (by rw [(xz0 _).mp c]; decide)] at e1
        refine xg_iinc (L' := [_, _, _, _, _, _]) xa_M_count_57 rfl (xi_inc _) rfl ?_
        refine xg_goto xa_M_count_60 ?_
        rw [← e1]
        exact ih (i + 1) _ (by omega)
      · rw [if_pos (xz1 c)] at e1
        refine xg_iinc (L' := [_, _, _, _, _, _]) xa_M_count_54 rfl (xi_inc _) rfl ?_
        refine xg_iinc (L' := [_, _, _, _, _, _]) xa_M_count_57 rfl (xi_inc _) rfl ?_
        refine xg_goto xa_M_count_60 ?_
        rw [← e1]
        exact ih (i + 1) _ (by omega)
  refine xg_iconst (v := 0) xa_M_count_27 (by decide) ?_
  refine xg_istore_n (L' := [_, _, _, _, _, _]) xa_M_count_28 (Nat.le_of_ble_eq_true rfl) rfl ?_
  refine xg_iconst (v := 0) xa_M_count_29 (by decide) ?_
  refine xg_istore_n (L' := [_, _, _, _, _, _]) xa_M_count_30 (Nat.le_of_ble_eq_true rfl) rfl ?_
  refine xg_iconst (v := 0) xa_M_count_31 (by decide) ?_
  refine xg_istore (L' := [_, _, _, _, _, _]) xa_M_count_32 (Nat.le_of_ble_eq_true rfl) rfl ?_
  refine xg_iconst (v := 0) xa_M_count_34 (by decide) ?_
  refine xg_istore (L' := [_, _, _, _, _, _]) xa_M_count_35 (Nat.le_of_ble_eq_true rfl) rfl ?_
  exact loop1 12 0 _ (by omega)
end XM10
