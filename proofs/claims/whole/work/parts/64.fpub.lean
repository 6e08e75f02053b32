/-! 64.fpub: the class's clear, fibre, release, lock, cut, mend, hold, clock. -/
theorem xa_F_clear_0 : xm_at xP 11 0 = some (0, .iload_n 1, 0, 0, 0, 0) := by decide +kernel
theorem xa_F_clear_1 : xm_at xP 11 1 = some (1, .iconst 2, 0, 0, 0, 0) := by decide +kernel
theorem xa_F_clear_2 : xm_at xP 11 2 = some (2, .if_icmp .lt 9, 11, 0, 0, 0) := by decide +kernel
theorem xa_F_clear_5 : xm_at xP 11 5 = some (5, .iload_n 1, 0, 0, 0, 0) := by decide +kernel
theorem xa_F_clear_6 : xm_at xP 11 6 = some (6, .bipush 7, 0, 0, 0, 0) := by decide +kernel
theorem xa_F_clear_8 : xm_at xP 11 8 = some (8, .if_icmp .le 11, 19, 0, 0, 0) := by decide +kernel
theorem xa_F_clear_11 : xm_at xP 11 11 = some (11, .new 23, 4, 25, 0, 1) := by decide +kernel
theorem xa_F_clear_19 : xm_at xP 11 19 = some (19, .aload_n 0, 0, 0, 0, 0) := by decide +kernel
theorem xa_F_clear_20 : xm_at xP 11 20 = some (20, .getfield 10, 2, 0, 0, 0) := by decide +kernel
theorem xa_F_clear_23 : xm_at xP 11 23 = some (23, .iload_n 1, 0, 0, 0, 0) := by decide +kernel
theorem xa_F_clear_24 : xm_at xP 11 24 = some (24, .invokevirtual 26, 12, 2, 1, 0) := by decide +kernel
theorem xa_F_clear_27 : xm_at xP 11 27 = some (27, .iconst 0, 0, 0, 0, 0) := by decide +kernel
theorem xa_F_clear_28 : xm_at xP 11 28 = some (28, .istore_n 2, 0, 0, 0, 0) := by decide +kernel
theorem xa_F_clear_29 : xm_at xP 11 29 = some (29, .iload_n 2, 0, 0, 0, 0) := by decide +kernel
theorem xa_F_clear_30 : xm_at xP 11 30 = some (30, .bipush 12, 0, 0, 0, 0) := by decide +kernel
theorem xa_F_clear_32 : xm_at xP 11 32 = some (32, .if_icmp .ge 19, 51, 0, 0, 0) := by decide +kernel
theorem xa_F_clear_35 : xm_at xP 11 35 = some (35, .aload_n 0, 0, 0, 0, 0) := by decide +kernel
theorem xa_F_clear_36 : xm_at xP 11 36 = some (36, .getfield 18, 2, 1, 0, 0) := by decide +kernel
theorem xa_F_clear_39 : xm_at xP 11 39 = some (39, .iload_n 2, 0, 0, 0, 0) := by decide +kernel
theorem xa_F_clear_40 : xm_at xP 11 40 = some (40, .aaload, 0, 0, 0, 0) := by decide +kernel
theorem xa_F_clear_41 : xm_at xP 11 41 = some (41, .iconst 0, 0, 0, 0, 0) := by decide +kernel
theorem xa_F_clear_42 : xm_at xP 11 42 = some (42, .putfield 30, 0, 0, 0, 1) := by decide +kernel
theorem xa_F_clear_45 : xm_at xP 11 45 = some (45, .iinc 2 1, 0, 0, 0, 0) := by decide +kernel
theorem xa_F_clear_48 : xm_at xP 11 48 = some (48, .goto (-19), 29, 0, 0, 0) := by decide +kernel
theorem xa_F_clear_51 : xm_at xP 11 51 = some (51, .aload_n 0, 0, 0, 0, 0) := by decide +kernel
theorem xa_F_clear_52 : xm_at xP 11 52 = some (52, .iconst 0, 0, 0, 0, 0) := by decide +kernel
theorem xa_F_clear_53 : xm_at xP 11 53 = some (53, .putfield 34, 2, 2, 0, 0) := by decide +kernel
theorem xa_F_clear_56 : xm_at xP 11 56 = some (56, .aload_n 0, 0, 0, 0, 0) := by decide +kernel
theorem xa_F_clear_57 : xm_at xP 11 57 = some (57, .iconst 0, 0, 0, 0, 0) := by decide +kernel
theorem xa_F_clear_58 : xm_at xP 11 58 = some (58, .putfield 38, 2, 3, 0, 0) := by decide +kernel
theorem xa_F_clear_61 : xm_at xP 11 61 = some (61, .aload_n 0, 0, 0, 0, 0) := by decide +kernel
theorem xa_F_clear_62 : xm_at xP 11 62 = some (62, .iconst 0, 0, 0, 0, 0) := by decide +kernel
theorem xa_F_clear_63 : xm_at xP 11 63 = some (63, .putfield 41, 2, 4, 0, 0) := by decide +kernel
theorem xa_F_clear_66 : xm_at xP 11 66 = some (66, .return_, 0, 0, 0, 0) := by decide +kernel
theorem xa_F_fibre_0 : xm_at xP 14 0 = some (0, .aload_n 0, 0, 0, 0, 0) := by decide +kernel
theorem xa_F_fibre_1 : xm_at xP 14 1 = some (1, .iload_n 1, 0, 0, 0, 0) := by decide +kernel
theorem xa_F_fibre_2 : xm_at xP 14 2 = some (2, .iload_n 2, 0, 0, 0, 0) := by decide +kernel
theorem xa_F_fibre_3 : xm_at xP 14 3 = some (3, .invokevirtual 44, 15, 3, 2, 0) := by decide +kernel
theorem xa_F_fibre_6 : xm_at xP 14 6 = some (6, .iload_n 3, 0, 0, 0, 0) := by decide +kernel
theorem xa_F_fibre_7 : xm_at xP 14 7 = some (7, .iconst 1, 0, 0, 0, 0) := by decide +kernel
theorem xa_F_fibre_8 : xm_at xP 14 8 = some (8, .if_icmp .lt 9, 17, 0, 0, 0) := by decide +kernel
theorem xa_F_fibre_11 : xm_at xP 14 11 = some (11, .iload_n 3, 0, 0, 0, 0) := by decide +kernel
theorem xa_F_fibre_12 : xm_at xP 14 12 = some (12, .bipush 100, 0, 0, 0, 0) := by decide +kernel
theorem xa_F_fibre_14 : xm_at xP 14 14 = some (14, .if_icmp .le 11, 25, 0, 0, 0) := by decide +kernel
theorem xa_F_fibre_17 : xm_at xP 14 17 = some (17, .new 23, 4, 25, 0, 1) := by decide +kernel
theorem xa_F_fibre_25 : xm_at xP 14 25 = some (25, .aload_n 0, 0, 0, 0, 0) := by decide +kernel
theorem xa_F_fibre_26 : xm_at xP 14 26 = some (26, .getfield 10, 2, 0, 0, 0) := by decide +kernel
theorem xa_F_fibre_29 : xm_at xP 14 29 = some (29, .getfield 48, 1, 1, 0, 0) := by decide +kernel
theorem xa_F_fibre_32 : xm_at xP 14 32 = some (32, .bipush 14, 0, 0, 0, 0) := by decide +kernel
theorem xa_F_fibre_34 : xm_at xP 14 34 = some (34, .if_icmp .ne 11, 45, 0, 0, 0) := by decide +kernel
theorem xa_F_fibre_37 : xm_at xP 14 37 = some (37, .new 51, 6, 53, 0, 1) := by decide +kernel
theorem xa_F_fibre_45 : xm_at xP 14 45 = some (45, .aload_n 0, 0, 0, 0, 0) := by decide +kernel
theorem xa_F_fibre_46 : xm_at xP 14 46 = some (46, .getfield 10, 2, 0, 0, 0) := by decide +kernel
theorem xa_F_fibre_49 : xm_at xP 14 49 = some (49, .iload_n 1, 0, 0, 0, 0) := by decide +kernel
theorem xa_F_fibre_50 : xm_at xP 14 50 = some (50, .iload_n 2, 0, 0, 0, 0) := by decide +kernel
theorem xa_F_fibre_51 : xm_at xP 14 51 = some (51, .iload_n 3, 0, 0, 0, 0) := by decide +kernel
theorem xa_F_fibre_52 : xm_at xP 14 52 = some (52, .invokevirtual 54, 16, 4, 1, 0) := by decide +kernel
theorem xa_F_fibre_55 : xm_at xP 14 55 = some (55, .ireturn, 0, 0, 0, 0) := by decide +kernel
theorem xa_F_release_0 : xm_at xP 38 0 = some (0, .aload_n 0, 0, 0, 0, 0) := by decide +kernel
theorem xa_F_release_1 : xm_at xP 38 1 = some (1, .iload_n 1, 0, 0, 0, 0) := by decide +kernel
theorem xa_F_release_2 : xm_at xP 38 2 = some (2, .invokevirtual 70, 39, 2, 2, 0) := by decide +kernel
theorem xa_F_release_5 : xm_at xP 38 5 = some (5, .aload_n 0, 0, 0, 0, 0) := by decide +kernel
theorem xa_F_release_6 : xm_at xP 38 6 = some (6, .getfield 18, 2, 1, 0, 0) := by decide +kernel
theorem xa_F_release_9 : xm_at xP 38 9 = some (9, .iload_n 1, 0, 0, 0, 0) := by decide +kernel
theorem xa_F_release_10 : xm_at xP 38 10 = some (10, .aaload, 0, 0, 0, 0) := by decide +kernel
theorem xa_F_release_11 : xm_at xP 38 11 = some (11, .iconst 0, 0, 0, 0, 0) := by decide +kernel
theorem xa_F_release_12 : xm_at xP 38 12 = some (12, .putfield 30, 0, 0, 0, 1) := by decide +kernel
theorem xa_F_release_15 : xm_at xP 38 15 = some (15, .return_, 0, 0, 0, 0) := by decide +kernel
theorem xa_F_lock_0 : xm_at xP 41 0 = some (0, .aload_n 0, 0, 0, 0, 0) := by decide +kernel
theorem xa_F_lock_1 : xm_at xP 41 1 = some (1, .iload_n 1, 0, 0, 0, 0) := by decide +kernel
theorem xa_F_lock_2 : xm_at xP 41 2 = some (2, .invokevirtual 73, 42, 2, 2, 0) := by decide +kernel
theorem xa_F_lock_5 : xm_at xP 41 5 = some (5, .aload_n 0, 0, 0, 0, 0) := by decide +kernel
theorem xa_F_lock_6 : xm_at xP 41 6 = some (6, .getfield 38, 2, 3, 0, 0) := by decide +kernel
theorem xa_F_lock_9 : xm_at xP 41 9 = some (9, .iload_n 1, 0, 0, 0, 0) := by decide +kernel
theorem xa_F_lock_10 : xm_at xP 41 10 = some (10, .invokestatic 76, 28, 2, 0, 0) := by decide +kernel
theorem xa_F_lock_13 : xm_at xP 41 13 = some (13, .iload_n 2, 0, 0, 0, 0) := by decide +kernel
theorem xa_F_lock_14 : xm_at xP 41 14 = some (14, .if_icmp .ne 11, 25, 0, 0, 0) := by decide +kernel
theorem xa_F_lock_17 : xm_at xP 41 17 = some (17, .new 51, 6, 53, 0, 1) := by decide +kernel
theorem xa_F_lock_25 : xm_at xP 41 25 = some (25, .aload_n 0, 0, 0, 0, 0) := by decide +kernel
theorem xa_F_lock_26 : xm_at xP 41 26 = some (26, .dup, 0, 0, 0, 0) := by decide +kernel
theorem xa_F_lock_27 : xm_at xP 41 27 = some (27, .getfield 38, 2, 3, 0, 0) := by decide +kernel
theorem xa_F_lock_30 : xm_at xP 41 30 = some (30, .iconst 1, 0, 0, 0, 0) := by decide +kernel
theorem xa_F_lock_31 : xm_at xP 41 31 = some (31, .iload_n 1, 0, 0, 0, 0) := by decide +kernel
theorem xa_F_lock_32 : xm_at xP 41 32 = some (32, .ishl, 0, 0, 0, 0) := by decide +kernel
theorem xa_F_lock_33 : xm_at xP 41 33 = some (33, .ixor, 0, 0, 0, 0) := by decide +kernel
theorem xa_F_lock_34 : xm_at xP 41 34 = some (34, .putfield 38, 2, 3, 0, 0) := by decide +kernel
theorem xa_F_lock_37 : xm_at xP 41 37 = some (37, .return_, 0, 0, 0, 0) := by decide +kernel
theorem xa_F_cut_0 : xm_at xP 44 0 = some (0, .aload_n 0, 0, 0, 0, 0) := by decide +kernel
theorem xa_F_cut_1 : xm_at xP 44 1 = some (1, .iload_n 1, 0, 0, 0, 0) := by decide +kernel
theorem xa_F_cut_2 : xm_at xP 44 2 = some (2, .invokevirtual 73, 42, 2, 2, 0) := by decide +kernel
theorem xa_F_cut_5 : xm_at xP 44 5 = some (5, .aload_n 0, 0, 0, 0, 0) := by decide +kernel
theorem xa_F_cut_6 : xm_at xP 44 6 = some (6, .getfield 34, 2, 2, 0, 0) := by decide +kernel
theorem xa_F_cut_9 : xm_at xP 44 9 = some (9, .iload_n 1, 0, 0, 0, 0) := by decide +kernel
theorem xa_F_cut_10 : xm_at xP 44 10 = some (10, .invokestatic 76, 28, 2, 0, 0) := by decide +kernel
theorem xa_F_cut_13 : xm_at xP 44 13 = some (13, .ifCond .eq 11, 24, 0, 0, 0) := by decide +kernel
theorem xa_F_cut_16 : xm_at xP 44 16 = some (16, .new 51, 6, 53, 0, 1) := by decide +kernel
theorem xa_F_cut_24 : xm_at xP 44 24 = some (24, .aload_n 0, 0, 0, 0, 0) := by decide +kernel
theorem xa_F_cut_25 : xm_at xP 44 25 = some (25, .dup, 0, 0, 0, 0) := by decide +kernel
theorem xa_F_cut_26 : xm_at xP 44 26 = some (26, .getfield 34, 2, 2, 0, 0) := by decide +kernel
theorem xa_F_cut_29 : xm_at xP 44 29 = some (29, .iconst 1, 0, 0, 0, 0) := by decide +kernel
theorem xa_F_cut_30 : xm_at xP 44 30 = some (30, .iload_n 1, 0, 0, 0, 0) := by decide +kernel
theorem xa_F_cut_31 : xm_at xP 44 31 = some (31, .ishl, 0, 0, 0, 0) := by decide +kernel
theorem xa_F_cut_32 : xm_at xP 44 32 = some (32, .ixor, 0, 0, 0, 0) := by decide +kernel
theorem xa_F_cut_33 : xm_at xP 44 33 = some (33, .putfield 34, 2, 2, 0, 0) := by decide +kernel
theorem xa_F_cut_36 : xm_at xP 44 36 = some (36, .aload_n 0, 0, 0, 0, 0) := by decide +kernel
theorem xa_F_cut_37 : xm_at xP 44 37 = some (37, .invokevirtual 80, 6, 1, 2, 0) := by decide +kernel
theorem xa_F_cut_40 : xm_at xP 44 40 = some (40, .return_, 0, 0, 0, 0) := by decide +kernel
theorem xa_F_mend_0 : xm_at xP 46 0 = some (0, .aload_n 0, 0, 0, 0, 0) := by decide +kernel
theorem xa_F_mend_1 : xm_at xP 46 1 = some (1, .iload_n 1, 0, 0, 0, 0) := by decide +kernel
theorem xa_F_mend_2 : xm_at xP 46 2 = some (2, .invokevirtual 73, 42, 2, 2, 0) := by decide +kernel
theorem xa_F_mend_5 : xm_at xP 46 5 = some (5, .aload_n 0, 0, 0, 0, 0) := by decide +kernel
theorem xa_F_mend_6 : xm_at xP 46 6 = some (6, .getfield 34, 2, 2, 0, 0) := by decide +kernel
theorem xa_F_mend_9 : xm_at xP 46 9 = some (9, .iload_n 1, 0, 0, 0, 0) := by decide +kernel
theorem xa_F_mend_10 : xm_at xP 46 10 = some (10, .invokestatic 76, 28, 2, 0, 0) := by decide +kernel
theorem xa_F_mend_13 : xm_at xP 46 13 = some (13, .ifCond .ne 11, 24, 0, 0, 0) := by decide +kernel
theorem xa_F_mend_16 : xm_at xP 46 16 = some (16, .new 51, 6, 53, 0, 1) := by decide +kernel
theorem xa_F_mend_24 : xm_at xP 46 24 = some (24, .aload_n 0, 0, 0, 0, 0) := by decide +kernel
theorem xa_F_mend_25 : xm_at xP 46 25 = some (25, .dup, 0, 0, 0, 0) := by decide +kernel
theorem xa_F_mend_26 : xm_at xP 46 26 = some (26, .getfield 34, 2, 2, 0, 0) := by decide +kernel
theorem xa_F_mend_29 : xm_at xP 46 29 = some (29, .iconst 1, 0, 0, 0, 0) := by decide +kernel
theorem xa_F_mend_30 : xm_at xP 46 30 = some (30, .iload_n 1, 0, 0, 0, 0) := by decide +kernel
theorem xa_F_mend_31 : xm_at xP 46 31 = some (31, .ishl, 0, 0, 0, 0) := by decide +kernel
theorem xa_F_mend_32 : xm_at xP 46 32 = some (32, .ixor, 0, 0, 0, 0) := by decide +kernel
theorem xa_F_mend_33 : xm_at xP 46 33 = some (33, .putfield 34, 2, 2, 0, 0) := by decide +kernel
theorem xa_F_mend_36 : xm_at xP 46 36 = some (36, .aload_n 0, 0, 0, 0, 0) := by decide +kernel
theorem xa_F_mend_37 : xm_at xP 46 37 = some (37, .invokevirtual 80, 6, 1, 2, 0) := by decide +kernel
theorem xa_F_mend_40 : xm_at xP 46 40 = some (40, .return_, 0, 0, 0, 0) := by decide +kernel
theorem xa_F_hold_0 : xm_at xP 48 0 = some (0, .iload_n 1, 0, 0, 0, 0) := by decide +kernel
theorem xa_F_hold_1 : xm_at xP 48 1 = some (1, .ifCond .lt 10, 11, 0, 0, 0) := by decide +kernel
theorem xa_F_hold_4 : xm_at xP 48 4 = some (4, .iload_n 1, 0, 0, 0, 0) := by decide +kernel
theorem xa_F_hold_5 : xm_at xP 48 5 = some (5, .sipush 1000, 0, 0, 0, 0) := by decide +kernel
theorem xa_F_hold_8 : xm_at xP 48 8 = some (8, .if_icmp .le 11, 19, 0, 0, 0) := by decide +kernel
theorem xa_F_hold_11 : xm_at xP 48 11 = some (11, .new 23, 4, 25, 0, 1) := by decide +kernel
theorem xa_F_hold_19 : xm_at xP 48 19 = some (19, .aload_n 0, 0, 0, 0, 0) := by decide +kernel
theorem xa_F_hold_20 : xm_at xP 48 20 = some (20, .iload_n 1, 0, 0, 0, 0) := by decide +kernel
theorem xa_F_hold_21 : xm_at xP 48 21 = some (21, .putfield 41, 2, 4, 0, 0) := by decide +kernel
theorem xa_F_hold_24 : xm_at xP 48 24 = some (24, .aload_n 0, 0, 0, 0, 0) := by decide +kernel
theorem xa_F_hold_25 : xm_at xP 48 25 = some (25, .invokevirtual 80, 6, 1, 2, 0) := by decide +kernel
theorem xa_F_hold_28 : xm_at xP 48 28 = some (28, .return_, 0, 0, 0, 0) := by decide +kernel
theorem xa_F_clock_0 : xm_at xP 3 0 = some (0, .iconst 0, 0, 0, 0, 0) := by decide +kernel
theorem xa_F_clock_1 : xm_at xP 3 1 = some (1, .istore_n 1, 0, 0, 0, 0) := by decide +kernel
theorem xa_F_clock_2 : xm_at xP 3 2 = some (2, .iload_n 1, 0, 0, 0, 0) := by decide +kernel
theorem xa_F_clock_3 : xm_at xP 3 3 = some (3, .bipush 12, 0, 0, 0, 0) := by decide +kernel
theorem xa_F_clock_5 : xm_at xP 3 5 = some (5, .if_icmp .ge 34, 39, 0, 0, 0) := by decide +kernel
theorem xa_F_clock_8 : xm_at xP 3 8 = some (8, .aload_n 0, 0, 0, 0, 0) := by decide +kernel
theorem xa_F_clock_9 : xm_at xP 3 9 = some (9, .getfield 18, 2, 1, 0, 0) := by decide +kernel
theorem xa_F_clock_12 : xm_at xP 3 12 = some (12, .iload_n 1, 0, 0, 0, 0) := by decide +kernel
theorem xa_F_clock_13 : xm_at xP 3 13 = some (13, .aaload, 0, 0, 0, 0) := by decide +kernel
theorem xa_F_clock_14 : xm_at xP 3 14 = some (14, .getfield 30, 0, 0, 0, 0) := by decide +kernel
theorem xa_F_clock_17 : xm_at xP 3 17 = some (17, .ifCond .eq 16, 33, 0, 0, 0) := by decide +kernel
theorem xa_F_clock_20 : xm_at xP 3 20 = some (20, .aload_n 0, 0, 0, 0, 0) := by decide +kernel
theorem xa_F_clock_21 : xm_at xP 3 21 = some (21, .getfield 18, 2, 1, 0, 0) := by decide +kernel
theorem xa_F_clock_24 : xm_at xP 3 24 = some (24, .iload_n 1, 0, 0, 0, 0) := by decide +kernel
theorem xa_F_clock_25 : xm_at xP 3 25 = some (25, .aaload, 0, 0, 0, 0) := by decide +kernel
theorem xa_F_clock_26 : xm_at xP 3 26 = some (26, .aload_n 0, 0, 0, 0, 0) := by decide +kernel
theorem xa_F_clock_27 : xm_at xP 3 27 = some (27, .getfield 34, 2, 2, 0, 0) := by decide +kernel
theorem xa_F_clock_30 : xm_at xP 3 30 = some (30, .invokevirtual 83, 4, 2, 0, 0) := by decide +kernel
theorem xa_F_clock_33 : xm_at xP 3 33 = some (33, .iinc 1 1, 0, 0, 0, 0) := by decide +kernel
theorem xa_F_clock_36 : xm_at xP 3 36 = some (36, .goto (-34), 2, 0, 0, 0) := by decide +kernel
theorem xa_F_clock_39 : xm_at xP 3 39 = some (39, .aload_n 0, 0, 0, 0, 0) := by decide +kernel
theorem xa_F_clock_40 : xm_at xP 3 40 = some (40, .invokevirtual 80, 6, 1, 2, 0) := by decide +kernel
theorem xa_F_clock_43 : xm_at xP 3 43 = some (43, .return_, 0, 0, 0, 0) := by decide +kernel
section XW1
variable {xs : Nat → Int32} {LS d : Nat} {ks : Nat} {fl : Bool} {h h' : List va_E} {Q : (Option Value ⊕ Nat) → xm_S → Prop}
variable {Mc : Int32} {Mn : Nat} {Mm : Nat} {Mh : Int32} {Mp : Nat} {Mfw : Int32} {Mfs : Int32} {Me : Nat → Nat} {Ml : Nat → Nat} {Mbr : Nat → Bool} {Mlk : Nat → Bool} {Mt : Nat → Bool} {Mg : Nat → Bool} {Ma : Nat → Nat} {Mb : Nat → Nat} {Mw : Nat → Nat} {Mwk : Nat → Int32} {Msp : Nat → Int32} {Mon : Nat → Int32} {Mct : Nat → Int32} {MS : Nat → Int32} {MZ : Nat → Int32} {MA : Nat → Nat} {MN : Nat → Nat}
def xoff (k : xcn) : xcn := (false, k.2.1, k.2.2.1, k.2.2.2.1, k.2.2.2.2.1, k.2.2.2.2.2.1, k.2.2.2.2.2.2.1, k.2.2.2.2.2.2.2.1, k.2.2.2.2.2.2.2.2)
theorem c_F_clear {x : Int32} (hC : xCS h Mn Mm Mh Me Ml Mbr Mlk Mt Mg Ma Mb Mw Mwk Msp Mon Mct)
    (k1 : cd_clear x = 1 → Q (.inr h.length) (h ++ [.inr (4, [])], ks + 6, true))
    (k0 : cd_clear x = 0 → ∀ n h' fl', 2 ≤ n → n ≤ 7 → x = nI n → xCS h' n 0 0 Me Ml Mbr Mlk (xclr Mt 12) Mg Ma Mb Mw Mwk Msp Mon Mct → xS h h' 0 22 → Q (.inl none) (h', ks, fl')) :
    xG xs LS (d + 6) 11 (0, xm_entry xP 11 [.ref 0, .int x], []) (h, ks, true) Q := by
  show xG xs LS (d + 6) 11 (0, [some (.ref 0), some (.int x), none], []) (h, ks, true) Q
  obtain ⟨cut, lk, K, hF, R⟩ := hC
  obtain ⟨f0, ⟨on, bk, co, wy, fN⟩, ⟨fa, f9, fj⟩, fK⟩ := id hF
  obtain ⟨f1, f2, f3, f4, f5, f6, f7, f8⟩ := id fN
  unfold cd_clear at k1 k0
  have bad : (x < 2 ∨ ¬ x ≤ 7) → xG xs LS (d + 6) 11 (11, [some (.ref 0), some (.int x), none], []) (h, ks, true) Q := by
    intro hc
    refine xg_throw xa_F_clear_11 (Nat.le_of_ble_eq_true rfl) (by decide +kernel) (by omega) ?_
    exact k1 (if_pos hc)
  refine xg_iload_n xa_F_clear_0 rfl ?_
  refine xg_iconst (v := 2) xa_F_clear_1 (by decide) ?_
  refine xg_icmp_lt xa_F_clear_2 (fun c => bad (Or.inl c)) (fun c3 => ?_)
  refine xg_iload_n xa_F_clear_5 rfl ?_
  refine xg_bipush (v := 7) xa_F_clear_6 (by decide) ?_
  refine xg_icmp_le xa_F_clear_8 (fun c9 => ?_) (fun c => bad (Or.inr c))
  rw [if_neg (fun q => by
    rcases q with q | q
    · exact c3 q
    · exact q c9)] at k0
  obtain ⟨n, hn1, hn2, rfl⟩ := xi_7 c3 c9
  refine xg_aload_n xa_F_clear_19 rfl ?_
  refine xg_getfield xa_F_clear_20 (by assumption) rfl ?_
  refine xg_iload_n xa_F_clear_23 rfl ?_
  refine xg_callV0 xa_F_clear_24 ⟨Nat.le_of_ble_eq_true rfl, Nat.le_of_ble_eq_true rfl, rfl⟩ rfl rfl (by assumption) ?_
  refine c_N_startWith fN (fun h2 f2 hN2 hS2 => xK0_d ?_)
  have hF2 := xFc_net hF ⟨_, _, _, _, hN2⟩ hS2
  have loop : ∀ j i h1 fl', i + j = 12 → xFc h1 n 0 Me Ml cut lk Mh (xmp xoff K i) → xS h h1 0 22 → xG xs LS (d + 6) 11 (29, [some (.ref 0), some (.int (nI n)), some (.int (nI i))], []) (h1, ks, fl') Q := by
    intro j
    induction j with
    | zero =>
      intro i h1 fl' hi hF hS
      have ei : i = 12 := by omega
      subst ei
      have g0 := hF.1
      refine xg_iload_n xa_F_clear_29 rfl ?_
      refine xg_bipush (v := 12) xa_F_clear_30 (by decide) ?_
      refine xg_icmp_ge xa_F_clear_32 (fun _ => ?_) (fun c => absurd (by decide) c)
      refine xg_aload_n xa_F_clear_51 rfl ?_
      refine xg_iconst (v := 0) xa_F_clear_52 (by decide) ?_
      refine xg_putf (fs' := [_, _, _, _, _]) xa_F_clear_53 (by assumption) (Nat.le_of_ble_eq_true rfl) rfl rfl (fun h53 u53 => ?_)
      have g1 := u53.2.1
      refine xg_aload_n xa_F_clear_56 rfl ?_
      refine xg_iconst (v := 0) xa_F_clear_57 (by decide) ?_
      refine xg_putf (fs' := [_, _, _, _, _]) xa_F_clear_58 (by assumption) (Nat.le_of_ble_eq_true rfl) rfl rfl (fun h58 u58 => ?_)
      have g2 := u58.2.1
      refine xg_aload_n xa_F_clear_61 rfl ?_
      refine xg_iconst (v := 0) xa_F_clear_62 (by decide) ?_
      refine xg_putf (fs' := [_, _, _, _, _]) xa_F_clear_63 (by assumption) (Nat.le_of_ble_eq_true rfl) rfl rfl (fun h63 u63 => ?_)
      have hF3 := xFc_o hF ((u53.trans u58).trans u63)
      refine xg_return xa_F_clear_66 (k0 rfl n _ _ hn1 hn2 rfl ⟨_, _, _, hF3, ?_⟩ (hS.tr (((u53.trans u58).trans u63).toS (by omega) (by omega))))
      refine ⟨fun f _ => by rw [xb_0]; simp, fun f _ => by rw [xb_0]; simp, fun c hc => ?_, fun c hc ht => ?_⟩
      · show (if c < 12 then xoff (K c) else K c).1 = if c < 12 then false else Mt c
        rw [if_pos hc, if_pos hc]
        rfl
      · have ht : (if c < 12 then false else Mt c) = true := ht
        rw [if_pos hc] at ht
        cases ht
    | succ j ih =>
      intro i h1 fl' hi hF hS
      have hi12 : i < 12 := by omega
      obtain ⟨g0, -, ⟨fa, f9, fj⟩, fK⟩ := id hF
      have hfi := fj i hi12
      have hci := fK i hi12
      rw [xmp_at] at hci
      refine xg_iload_n xa_F_clear_29 rfl ?_
      refine xg_bipush (v := 12) xa_F_clear_30 (by decide) ?_
      refine xg_icmp_ge xa_F_clear_32 (fun c => absurd c (show ¬ nI 12 ≤ nI i from nI_ge (by omega) (by omega))) (fun _ => ?_)
      refine xg_aload_n xa_F_clear_35 rfl ?_
      refine xg_getfield xa_F_clear_36 (by assumption) rfl ?_
      refine xg_iload_n xa_F_clear_39 rfl ?_
      refine xg_aald_n xa_F_clear_40 (by assumption) rfl (by assumption) (by decide) (by assumption) ?_
      refine xg_iconst (v := 0) xa_F_clear_41 (by decide) ?_
      refine xg_putf (fs' := [_, _, _, _, _, _, _, _, _]) xa_F_clear_42 (by assumption) (Nat.le_of_ble_eq_true rfl) rfl rfl (fun h42 u42 => ?_)
      have hF2 := xFc_con (k := xoff (K i)) hF hi12 u42
      rw [xmp_s] at hF2
      refine xg_iinc (L' := [_, _, _]) xa_F_clear_45 rfl (xi_inc _) rfl ?_
      refine xg_goto xa_F_clear_48 ?_
      exact ih (i + 1) h42 _ (by omega) hF2 (hS.tr (u42.toS (by omega) (by omega)))
  refine xg_iconst (v := 0) xa_F_clear_27 (by decide) ?_
  refine xg_istore_n (L' := [_, _, _]) xa_F_clear_28 (Nat.le_of_ble_eq_true rfl) rfl ?_
  exact loop 12 0 h2 _ (by omega) (by rw [xmp_0]; exact hF2) (hS2.up (by omega) (by omega))
theorem gfr_up {m x y : Nat} : upd (gfr Me) m (nI x) = gfr (xup (xup Me (2 * m) x) (2 * m + 1) y) := by
  funext f
  show (if f = m then nI x else nI (Me (2 * f))) = nI (xup (xup Me (2 * m) x) (2 * m + 1) y (2 * f))
  by_cases c : f = m
  · rw [if_pos c, c, xup_n _ _ (by omega), xup_s]
  · rw [if_neg c, xup_n _ _ (by omega), xup_n _ _ (by omega)]
theorem gto_up {m x y : Nat} : upd (gto Me) m (nI y) = gto (xup (xup Me (2 * m) x) (2 * m + 1) y) := by
  funext f
  show (if f = m then nI y else nI (Me (2 * f + 1))) = nI (xup (xup Me (2 * m) x) (2 * m + 1) y (2 * f + 1))
  by_cases c : f = m
  · rw [if_pos c, c, xup_s]
  · rw [if_neg c, xup_n _ _ (by omega), xup_n _ _ (by omega)]
theorem gln_up {m z : Nat} : upd (gln Ml) m (nI z) = gln (xup Ml m z) := xup_v nI Ml m z
theorem c_F_fibre {a b len : Int32} (hn : Mn ≤ 7) (hm : Mm ≤ 14) (hC : xCS h Mn Mm Mh Me Ml Mbr Mlk Mt Mg Ma Mb Mw Mwk Msp Mon Mct)
    (k1 : cd_fibre Mn Mm a b len = 1 → Q (.inr h.length) (h ++ [.inr (5, [])], ks + 6, true)) (k2 : cd_fibre Mn Mm a b len = 2 → Q (.inr h.length) (h ++ [.inr (4, [])], ks + 6, true)) (k3 : cd_fibre Mn Mm a b len = 3 → Q (.inr h.length) (h ++ [.inr (6, [])], ks + 6, true))
    (k0 : cd_fibre Mn Mm a b len = 0 → ∀ x y z h' fl', x < Mn → y < Mn → ¬ x = y → 1 ≤ z → z ≤ 100 → Mm < 14 → a = nI x → b = nI y → len = nI z → xCS h' Mn (Mm + 1) Mh (xup (xup Me (2 * Mm) x) (2 * Mm + 1) y) (xup Ml Mm z) (xup Mbr Mm false) (xup Mlk Mm false) Mt Mg Ma Mb Mw Mwk Msp Mon Mct → xS h h' 0 22 → Q (.inl (some (.int (nI Mm)))) (h', ks, fl')) :
    xG xs LS (d + 6) 14 (0, xm_entry xP 14 [.ref 0, .int a, .int b, .int len], []) (h, ks, true) Q := by
  show xG xs LS (d + 6) 14 (0, [some (.ref 0), some (.int a), some (.int b), some (.int len)], []) (h, ks, true) Q
  obtain ⟨cut, lk, K, hF, R⟩ := hC
  obtain ⟨f0, ⟨on, bk, co, wy, fN⟩, ⟨fa, f9, fj⟩, fK⟩ := id hF
  obtain ⟨f1, f2, f3, f4, f5, f6, f7, f8⟩ := id fN
  unfold cd_fibre at k1 k2 k3 k0
  refine xg_aload_n xa_F_fibre_0 rfl ?_
  refine xg_iload_n xa_F_fibre_1 rfl ?_
  refine xg_iload_n xa_F_fibre_2 rfl ?_
  refine xg_cVT xa_F_fibre_3 ⟨Nat.le_of_ble_eq_true rfl, Nat.le_of_ble_eq_true rfl, rfl⟩ rfl rfl (by assumption) ?_
  refine c_F_requireTwoSites hF (fun q => ?_) (fun q1 q2 => ?_) (fun q1 q2 => ?_)
  · exact xKX_up (xlast _ _) (by decide +kernel) (by decide +kernel) (k1 (if_pos q))
  · exact xKX_up (xlast _ _) (by decide +kernel) (by decide +kernel) (k2 (by rw [if_neg q1, if_pos (Or.inl q2)]))
  · refine xKX_n ?_
    rw [if_neg q1] at k2 k3 k0
    clear k1
    have bad : (len < 1 ∨ ¬ len ≤ 100) → xG xs LS (d + 6) 14 (17, [some (.ref 0), some (.int a), some (.int b), some (.int len)], []) (h, ks, true) Q := by
      intro q
      refine xg_throw xa_F_fibre_17 (Nat.le_of_ble_eq_true rfl) (by decide +kernel) (by omega) ?_
      exact k2 (if_pos (Or.inr q))
    show xG xs LS (d + 6) 14 (6, [some (.ref 0), some (.int a), some (.int b), some (.int len)], []) (h, ks, true) Q
    refine xg_iload_n xa_F_fibre_6 rfl ?_
    refine xg_iconst (v := 1) xa_F_fibre_7 (by decide) ?_
    refine xg_icmp_lt xa_F_fibre_8 (fun c => bad (Or.inl c)) (fun c8 => ?_)
    refine xg_iload_n xa_F_fibre_11 rfl ?_
    refine xg_bipush (v := 100) xa_F_fibre_12 (by decide) ?_
    refine xg_icmp_le xa_F_fibre_14 (fun c14 => ?_) (fun c => bad (Or.inr c))
    rw [if_neg (fun q => by
      rcases q with q | q | q
      · exact q2 q
      · exact c8 q
      · exact q c14)] at k3 k0
    refine xg_aload_n xa_F_fibre_25 rfl ?_
    refine xg_getfield xa_F_fibre_26 (by assumption) rfl ?_
    refine xg_getfield xa_F_fibre_29 (by assumption) rfl ?_
    refine xg_bipush (v := 14) xa_F_fibre_32 (by decide) ?_
    refine xg_icmp_ne xa_F_fibre_34 (fun c => ?_) (fun c => ?_)
    · have hm14 : Mm < 14 := by
        apply Classical.byContradiction
        intro q
        exact c (by rw [show Mm = 14 by omega]; rfl)
      rw [if_neg (by omega)] at k0
      have qa : xnS Mn a = false := by
        cases z : xnS Mn a with
        | false => rfl
        | true => exact absurd (Or.inl z) q1
      have qb : xnS Mn b = false := by
        cases z : xnS Mn b with
        | false => rfl
        | true => exact absurd (Or.inr z) q1
      obtain ⟨x, hx, rfl⟩ := xi_s (by omega) qa
      obtain ⟨y, hy, rfl⟩ := xi_s (by omega) qb
      obtain ⟨z, hz1, hz2, rfl⟩ := xi_100 c8 c14
      refine xg_aload_n xa_F_fibre_45 rfl ?_
      refine xg_getfield xa_F_fibre_46 (by assumption) rfl ?_
      refine xg_iload_n xa_F_fibre_49 rfl ?_
      refine xg_iload_n xa_F_fibre_50 rfl ?_
      refine xg_iload_n xa_F_fibre_51 rfl ?_
      refine xg_callV1 xa_F_fibre_52 ⟨Nat.le_of_ble_eq_true rfl, Nat.le_of_ble_eq_true rfl, rfl⟩ rfl rfl (by assumption) ?_
      refine c_N_add fN hm14 (fun h2 f2 hN2 hS2 => xK1_d ?_)
      rw [gfr_up (y := y), gto_up (x := x), gln_up] at hN2
      have hF2 := xFc_net hF ⟨_, _, _, _, hN2⟩ hS2
      have upb : ∀ (br : Nat → Bool) (c : Int32), (∀ f, f < 32 → xb c f = (decide (f < Mm) && br f)) → ∀ f, f < 32 → xb c f = (decide (f < Mm + 1) && xup br Mm false f) := by
        intro br c hc f hf
        rw [hc f hf]
        by_cases w : f = Mm
        · rw [w, xup_s, decide_eq_false (Nat.lt_irrefl _)]; simp
        · rw [xup_n _ _ w]
          by_cases w2 : f < Mm
          · rw [decide_eq_true w2, decide_eq_true (by omega)]
          · rw [decide_eq_false w2, decide_eq_false (by omega)]
      refine xg_ireturn xa_F_fibre_55  ?_
      exact k0 rfl x y z _ _ hx hy (fun q => q2 (by rw [q])) hz1 hz2 hm14 rfl rfl rfl ⟨_, _, _, hF2, upb _ _ R.1, upb _ _ R.2.1, R.2.2.1, R.2.2.2⟩ (hS2.up (by omega) (by omega))
    · have hm14 : Mm = 14 := (nI_eq (by omega) (by omega)).mp (show nI Mm = nI 14 from c)
      rw [if_pos hm14] at k3
      refine xg_throw xa_F_fibre_37 (Nat.le_of_ble_eq_true rfl) (by decide +kernel) (by omega) ?_
      exact k3 rfl
theorem r_nC {cut lk : Int32} {K : Nat → xcn} (R : xRel cut lk K Mm Mbr Mlk Mt Mg Ma Mb Mw Mwk Msp Mon Mct) (y : Int32) : xnC (fun c => (K c).1) y = xnC Mt y := by
  unfold xnC
  by_cases c1 : y < 0
  · rw [decide_eq_true c1]; rfl
  · by_cases c2 : 11 < y
    · rw [decide_eq_true c2]; simp
    · obtain ⟨j, hj, rfl⟩ := xi_12 c1 c2
      show (_ || _ || !(K (nI j).toNatClampNeg).1) = _
      rw [nI_clamp (by omega), R.2.2.1 j hj]
theorem c_F_release {x : Int32} (hC : xCS h Mn Mm Mh Me Ml Mbr Mlk Mt Mg Ma Mb Mw Mwk Msp Mon Mct)
    (k1 : cd_conn Mt x = 1 → Q (.inr h.length) (h ++ [.inr (5, [])], ks + 6, true))
    (k0 : cd_conn Mt x = 0 → ∀ c h' fl', c < 12 → x = nI c → Mt c = true → xCS h' Mn Mm Mh Me Ml Mbr Mlk (xup Mt c false) Mg Ma Mb Mw Mwk Msp Mon Mct → xS h h' 0 22 → Q (.inl none) (h', ks, fl')) :
    xG xs LS (d + 6) 38 (0, xm_entry xP 38 [.ref 0, .int x], []) (h, ks, true) Q := by
  show xG xs LS (d + 6) 38 (0, [some (.ref 0), some (.int x)], []) (h, ks, true) Q
  obtain ⟨cut, lk, K, hF, R⟩ := hC
  obtain ⟨f0, ⟨on, bk, co, wy, fN⟩, ⟨fa, f9, fj⟩, fK⟩ := id hF
  obtain ⟨f1, f2, f3, f4, f5, f6, f7, f8⟩ := id fN
  unfold cd_conn at k1 k0
  refine xg_aload_n xa_F_release_0 rfl ?_
  refine xg_iload_n xa_F_release_1 rfl ?_
  refine xg_cVT xa_F_release_2 ⟨Nat.le_of_ble_eq_true rfl, Nat.le_of_ble_eq_true rfl, rfl⟩ rfl rfl (by assumption) ?_
  refine c_F_requireConnection hF (fun q => ?_) (fun q => ?_)
  · rw [r_nC R] at q
    exact xKX_up (xlast _ _) (by decide +kernel) (by decide +kernel) (k1 (if_pos q))
  · rw [r_nC R] at q
    refine xKX_n ?_
    rw [if_neg (by rw [q]; decide)] at k0
    obtain ⟨c, hc, rfl, ht⟩ := xi_c q
    have hfc := fj c hc
    have hcc := fK c hc
    refine xg_aload_n xa_F_release_5 rfl ?_
    refine xg_getfield xa_F_release_6 (by assumption) rfl ?_
    refine xg_iload_n xa_F_release_9 rfl ?_
    refine xg_aald_n xa_F_release_10 (by assumption) rfl (by assumption) (by decide) (by assumption) ?_
    refine xg_iconst (v := 0) xa_F_release_11 (by decide) ?_
    refine xg_putf (fs' := [_, _, _, _, _, _, _, _, _]) xa_F_release_12 (by assumption) (Nat.le_of_ble_eq_true rfl) rfl rfl (fun h12 u12 => ?_)
    have hF2 := xFc_con (k := xoff (K c)) hF hc u12
    refine xg_return xa_F_release_15 (k0 rfl c _ _ hc rfl ht ⟨_, _, _, hF2, R.1, R.2.1, fun j hj => ?_, fun j hj ht2 => ?_⟩ (u12.toS (by omega) (by omega)))
    · by_cases z : j = c
      · rw [z, xup_s, xup_s]; rfl
      · rw [xup_n _ _ z, xup_n _ _ z]; exact R.2.2.1 j hj
    · have z : ¬ j = c := fun z => by rw [z, xup_s] at ht2; cases ht2
      rw [xup_n _ _ z]
      rw [xup_n _ _ z] at ht2
      exact R.2.2.2 j hj ht2
theorem r_flip {m f : Nat} {br : Nat → Bool} {c : Int32} {v : Bool} (hf : f < m) (hm : m ≤ 14) (hc : ∀ g, g < 32 → xb c g = (decide (g < m) && br g)) (hv : ¬ br f = v) : ∀ g, g < 32 → xb (c ^^^ xbt f) g = (decide (g < m) && xup br f v g) := by
  intro g hg
  rw [xb_xor _ _ hg, xb_bt hg (by omega), hc g hg]
  by_cases z : g = f
  · rw [z, xup_s, decide_eq_true hf, decide_eq_true rfl]
    cases h1 : br f <;> cases v
    · exact absurd h1 hv
    · rfl
    · rfl
    · exact absurd h1 hv
  · rw [xup_n _ _ z, decide_eq_false z, Bool.xor_false]
theorem c_F_lock {x : Int32} {v : Bool} (hm : Mm ≤ 14) (hC : xCS h Mn Mm Mh Me Ml Mbr Mlk Mt Mg Ma Mb Mw Mwk Msp Mon Mct)
    (k1 : cd_lock Mm Mlk x v = 1 → Q (.inr h.length) (h ++ [.inr (5, [])], ks + 6, true)) (k2 : cd_lock Mm Mlk x v = 2 → Q (.inr h.length) (h ++ [.inr (6, [])], ks + 6, true))
    (k0 : cd_lock Mm Mlk x v = 0 → ∀ f h' fl', f < Mm → x = nI f → ¬ Mlk f = v → xCS h' Mn Mm Mh Me Ml Mbr (xup Mlk f v) Mt Mg Ma Mb Mw Mwk Msp Mon Mct → xS h h' 0 22 → Q (.inl none) (h', ks, fl')) :
    xG xs LS (d + 6) 41 (0, xm_entry xP 41 [.ref 0, .int x, .int (xz v)], []) (h, ks, true) Q := by
  show xG xs LS (d + 6) 41 (0, [some (.ref 0), some (.int x), some (.int (xz v))], []) (h, ks, true) Q
  obtain ⟨cut, lk, K, hF, R⟩ := hC
  obtain ⟨f0, ⟨on, bk, co, wy, fN⟩, ⟨fa, f9, fj⟩, fK⟩ := id hF
  obtain ⟨f1, f2, f3, f4, f5, f6, f7, f8⟩ := id fN
  unfold cd_lock at k1 k2 k0
  refine xg_aload_n xa_F_lock_0 rfl ?_
  refine xg_iload_n xa_F_lock_1 rfl ?_
  refine xg_cVT xa_F_lock_2 ⟨Nat.le_of_ble_eq_true rfl, Nat.le_of_ble_eq_true rfl, rfl⟩ rfl rfl (by assumption) ?_
  refine c_F_requireFibre hF (fun q => ?_) (fun q => ?_)
  · exact xKX_up (xlast _ _) (by decide +kernel) (by decide +kernel) (k1 (if_pos q))
  · refine xKX_n ?_
    obtain ⟨f, hf, rfl⟩ := xi_s (by omega) q
    rw [if_neg (by rw [q]; decide), nI_clamp (by omega)] at k2 k0
    have hb : xb lk f = Mlk f := by rw [R.2.1 f (by omega), decide_eq_true hf]; rfl
    refine xg_aload_n xa_F_lock_5 rfl ?_
    refine xg_getfield xa_F_lock_6 (by assumption) rfl ?_
    refine xg_iload_n xa_F_lock_9 rfl ?_
    refine xg_callS1 xa_F_lock_10 ⟨Nat.le_of_ble_eq_true rfl, Nat.le_of_ble_eq_true rfl, rfl⟩ rfl rfl ?_
    refine c_F_holds ?_
    refine xK1_c ?_
    rw [hb]
    refine xg_iload_n xa_F_lock_13 rfl ?_
    refine xg_icmp_ne xa_F_lock_14 (fun c => ?_) (fun c => ?_)
    · have hne : ¬ Mlk f = v := fun z => c (by rw [z])
      rw [if_neg hne] at k0
      refine xg_aload_n xa_F_lock_25 rfl ?_
      refine xg_dup_r xa_F_lock_26 ?_
      refine xg_getfield xa_F_lock_27 (by assumption) rfl ?_
      refine xg_iconst (v := 1) xa_F_lock_30 (by decide) ?_
      refine xg_iload_n xa_F_lock_31 rfl ?_
      refine xg_ishl xa_F_lock_32 rfl ?_
      refine xg_ixor xa_F_lock_33 rfl ?_
      refine xg_putf (fs' := [_, _, _, _, _]) xa_F_lock_34 (by assumption) (Nat.le_of_ble_eq_true rfl) rfl rfl (fun h34 u34 => ?_)
      have hF2 := xFc_o hF u34
      exact xg_return xa_F_lock_37 (k0 rfl f _ _ hf rfl hne ⟨_, _, _, hF2, R.1, r_flip hf hm R.2.1 hne, R.2.2.1, R.2.2.2⟩ (u34.toS (by omega) (by omega)))
    · rw [if_pos (xz_inj.mp c)] at k2
      refine xg_throw xa_F_lock_17 (Nat.le_of_ble_eq_true rfl) (by decide +kernel) (by omega) ?_
      exact k2 rfl
theorem c_F_cut {x : Int32} (I : xIn Mn Mm Mh Me Ml Mt Mg Ma Mb Mw Mwk Msp Mon Mct) (hC : xCS h Mn Mm Mh Me Ml Mbr Mlk Mt Mg Ma Mb Mw Mwk Msp Mon Mct)
    (k1 : cd_cut Mm Mbr x true = 1 → Q (.inr h.length) (h ++ [.inr (5, [])], ks + 6, true)) (k2 : cd_cut Mm Mbr x true = 2 → Q (.inr h.length) (h ++ [.inr (6, [])], ks + 6, true))
    (k0 : cd_cut Mm Mbr x true = 0 → ∀ f h' fl', f < Mm → x = nI f → Mbr f = false → xCS h' Mn Mm Mh Me Ml (xup Mbr f true) Mlk Mt Mg Ma Mb Mw Mwk Msp (xmix Mt (fun c => (xseF Mm Mh (xup Mbr f true) Mwk Msp Mon Mct c).1) Mon 12) (xmix Mt (fun c => (xseF Mm Mh (xup Mbr f true) Mwk Msp Mon Mct c).2) Mct 12) → xS h h' 0 22 → Q (.inl none) (h', ks, fl')) :
    xG xs LS (d + 6) 44 (0, xm_entry xP 44 [.ref 0, .int x], []) (h, ks, true) Q := by
  show xG xs LS (d + 6) 44 (0, [some (.ref 0), some (.int x)], []) (h, ks, true) Q
  obtain ⟨cut, lk, K, hF, R⟩ := hC
  have hm := I.1.1
  obtain ⟨f0, ⟨on, bk, co, wy, fN⟩, ⟨fa, f9, fj⟩, fK⟩ := id hF
  obtain ⟨f1, f2, f3, f4, f5, f6, f7, f8⟩ := id fN
  unfold cd_cut at k1 k2 k0
  refine xg_aload_n xa_F_cut_0 rfl ?_
  refine xg_iload_n xa_F_cut_1 rfl ?_
  refine xg_cVT xa_F_cut_2 ⟨Nat.le_of_ble_eq_true rfl, Nat.le_of_ble_eq_true rfl, rfl⟩ rfl rfl (by assumption) ?_
  refine c_F_requireFibre hF (fun q => ?_) (fun q => ?_)
  · exact xKX_up (xlast _ _) (by decide +kernel) (by decide +kernel) (k1 (if_pos q))
  · refine xKX_n ?_
    obtain ⟨f, hf, rfl⟩ := xi_s (by omega) q
    rw [if_neg (by rw [q]; decide), nI_clamp (by omega)] at k2 k0
    have hb : xb cut f = Mbr f := by rw [R.1 f (by omega), decide_eq_true hf]; rfl
    refine xg_aload_n xa_F_cut_5 rfl ?_
    refine xg_getfield xa_F_cut_6 (by assumption) rfl ?_
    refine xg_iload_n xa_F_cut_9 rfl ?_
    refine xg_callS1 xa_F_cut_10 ⟨Nat.le_of_ble_eq_true rfl, Nat.le_of_ble_eq_true rfl, rfl⟩ rfl rfl ?_
    refine c_F_holds ?_
    refine xK1_c ?_
    rw [hb]
    refine xg_if_eq xa_F_cut_13 (fun c => ?_) (fun c => ?_)
    · have hne := (xz0 _).mp c
      rw [if_neg (by rw [hne]; decide)] at k0
      refine xg_aload_n xa_F_cut_24 rfl ?_
      refine xg_dup_r xa_F_cut_25 ?_
      refine xg_getfield xa_F_cut_26 (by assumption) rfl ?_
      refine xg_iconst (v := 1) xa_F_cut_29 (by decide) ?_
      refine xg_iload_n xa_F_cut_30 rfl ?_
      refine xg_ishl xa_F_cut_31 rfl ?_
      refine xg_ixor xa_F_cut_32 rfl ?_
      refine xg_putf (fs' := [_, _, _, _, _]) xa_F_cut_33 (by assumption) (Nat.le_of_ble_eq_true rfl) rfl rfl (fun h33 u33 => ?_)
      have hF2 := xFc_o hF u33
      have R2 : xRel (cut ^^^ xbt f) lk K Mm (xup Mbr f true) Mlk Mt Mg Ma Mb Mw Mwk Msp Mon Mct := ⟨r_flip hf hm R.1 (by rw [hne]; decide), R.2.1, R.2.2.1, R.2.2.2⟩
      have g0 := hF2.1
      refine xg_aload_n xa_F_cut_36 rfl ?_
      refine xg_callV0 xa_F_cut_37 ⟨Nat.le_of_ble_eq_true rfl, Nat.le_of_ble_eq_true rfl, rfl⟩ rfl rfl (by assumption) ?_
      refine c_F_changeOverAll hF2 (fun h3 f3 hF3 hS3 => xK0_d ?_)
      exact xg_return xa_F_cut_40 (k0 rfl f _ _ hf rfl hne ⟨_, _, _, hF3, r_change I R2⟩ ((u33.toS (by omega) (by omega)).tr hS3))
    · rw [if_pos (xz1 c)] at k2
      refine xg_throw xa_F_cut_16 (Nat.le_of_ble_eq_true rfl) (by decide +kernel) (by omega) ?_
      exact k2 rfl
theorem c_F_mend {x : Int32} (I : xIn Mn Mm Mh Me Ml Mt Mg Ma Mb Mw Mwk Msp Mon Mct) (hC : xCS h Mn Mm Mh Me Ml Mbr Mlk Mt Mg Ma Mb Mw Mwk Msp Mon Mct)
    (k1 : cd_cut Mm Mbr x false = 1 → Q (.inr h.length) (h ++ [.inr (5, [])], ks + 6, true)) (k2 : cd_cut Mm Mbr x false = 2 → Q (.inr h.length) (h ++ [.inr (6, [])], ks + 6, true))
    (k0 : cd_cut Mm Mbr x false = 0 → ∀ f h' fl', f < Mm → x = nI f → Mbr f = true → xCS h' Mn Mm Mh Me Ml (xup Mbr f false) Mlk Mt Mg Ma Mb Mw Mwk Msp (xmix Mt (fun c => (xseF Mm Mh (xup Mbr f false) Mwk Msp Mon Mct c).1) Mon 12) (xmix Mt (fun c => (xseF Mm Mh (xup Mbr f false) Mwk Msp Mon Mct c).2) Mct 12) → xS h h' 0 22 → Q (.inl none) (h', ks, fl')) :
    xG xs LS (d + 6) 46 (0, xm_entry xP 46 [.ref 0, .int x], []) (h, ks, true) Q := by
  show xG xs LS (d + 6) 46 (0, [some (.ref 0), some (.int x)], []) (h, ks, true) Q
  obtain ⟨cut, lk, K, hF, R⟩ := hC
  have hm := I.1.1
  obtain ⟨f0, ⟨on, bk, co, wy, fN⟩, ⟨fa, f9, fj⟩, fK⟩ := id hF
  obtain ⟨f1, f2, f3, f4, f5, f6, f7, f8⟩ := id fN
  unfold cd_cut at k1 k2 k0
  refine xg_aload_n xa_F_mend_0 rfl ?_
  refine xg_iload_n xa_F_mend_1 rfl ?_
  refine xg_cVT xa_F_mend_2 ⟨Nat.le_of_ble_eq_true rfl, Nat.le_of_ble_eq_true rfl, rfl⟩ rfl rfl (by assumption) ?_
  refine c_F_requireFibre hF (fun q => ?_) (fun q => ?_)
  · exact xKX_up (xlast _ _) (by decide +kernel) (by decide +kernel) (k1 (if_pos q))
  · refine xKX_n ?_
    obtain ⟨f, hf, rfl⟩ := xi_s (by omega) q
    rw [if_neg (by rw [q]; decide), nI_clamp (by omega)] at k2 k0
    have hb : xb cut f = Mbr f := by rw [R.1 f (by omega), decide_eq_true hf]; rfl
    refine xg_aload_n xa_F_mend_5 rfl ?_
    refine xg_getfield xa_F_mend_6 (by assumption) rfl ?_
    refine xg_iload_n xa_F_mend_9 rfl ?_
    refine xg_callS1 xa_F_mend_10 ⟨Nat.le_of_ble_eq_true rfl, Nat.le_of_ble_eq_true rfl, rfl⟩ rfl rfl ?_
    refine c_F_holds ?_
    refine xK1_c ?_
    rw [hb]
    refine xg_if_ne xa_F_mend_13 (fun c => ?_) (fun c => ?_)
    · have hne := xz1 c
      rw [if_neg (by rw [hne]; decide)] at k0
      refine xg_aload_n xa_F_mend_24 rfl ?_
      refine xg_dup_r xa_F_mend_25 ?_
      refine xg_getfield xa_F_mend_26 (by assumption) rfl ?_
      refine xg_iconst (v := 1) xa_F_mend_29 (by decide) ?_
      refine xg_iload_n xa_F_mend_30 rfl ?_
      refine xg_ishl xa_F_mend_31 rfl ?_
      refine xg_ixor xa_F_mend_32 rfl ?_
      refine xg_putf (fs' := [_, _, _, _, _]) xa_F_mend_33 (by assumption) (Nat.le_of_ble_eq_true rfl) rfl rfl (fun h33 u33 => ?_)
      have hF2 := xFc_o hF u33
      have R2 : xRel (cut ^^^ xbt f) lk K Mm (xup Mbr f false) Mlk Mt Mg Ma Mb Mw Mwk Msp Mon Mct := ⟨r_flip hf hm R.1 (by rw [hne]; decide), R.2.1, R.2.2.1, R.2.2.2⟩
      have g0 := hF2.1
      refine xg_aload_n xa_F_mend_36 rfl ?_
      refine xg_callV0 xa_F_mend_37 ⟨Nat.le_of_ble_eq_true rfl, Nat.le_of_ble_eq_true rfl, rfl⟩ rfl rfl (by assumption) ?_
      refine c_F_changeOverAll hF2 (fun h3 f3 hF3 hS3 => xK0_d ?_)
      exact xg_return xa_F_mend_40 (k0 rfl f _ _ hf rfl hne ⟨_, _, _, hF3, r_change I R2⟩ ((u33.toS (by omega) (by omega)).tr hS3))
    · rw [if_pos ((xz0 _).mp c)] at k2
      refine xg_throw xa_F_mend_16 (Nat.le_of_ble_eq_true rfl) (by decide +kernel) (by omega) ?_
      exact k2 rfl
theorem c_F_hold {x : Int32} (I : xIn Mn Mm Mh Me Ml Mt Mg Ma Mb Mw Mwk Msp Mon Mct) (hC : xCS h Mn Mm Mh Me Ml Mbr Mlk Mt Mg Ma Mb Mw Mwk Msp Mon Mct)
    (k1 : cd_hold x = 1 → Q (.inr h.length) (h ++ [.inr (4, [])], ks + 6, true))
    (k0 : cd_hold x = 0 → ∀ h' fl', xCS h' Mn Mm x Me Ml Mbr Mlk Mt Mg Ma Mb Mw Mwk Msp (xmix Mt (fun c => (xseF Mm x Mbr Mwk Msp Mon Mct c).1) Mon 12) (xmix Mt (fun c => (xseF Mm x Mbr Mwk Msp Mon Mct c).2) Mct 12) → xS h h' 0 22 → Q (.inl none) (h', ks, fl')) :
    xG xs LS (d + 6) 48 (0, xm_entry xP 48 [.ref 0, .int x], []) (h, ks, true) Q := by
  show xG xs LS (d + 6) 48 (0, [some (.ref 0), some (.int x)], []) (h, ks, true) Q
  obtain ⟨cut, lk, K, hF, R⟩ := hC
  obtain ⟨f0, ⟨on, bk, co, wy, fN⟩, ⟨fa, f9, fj⟩, fK⟩ := id hF
  obtain ⟨f1, f2, f3, f4, f5, f6, f7, f8⟩ := id fN
  unfold cd_hold at k1 k0
  have bad : (x < 0 ∨ ¬ x ≤ 1000) → xG xs LS (d + 6) 48 (11, [some (.ref 0), some (.int x)], []) (h, ks, true) Q := by
    intro hc
    refine xg_throw xa_F_hold_11 (Nat.le_of_ble_eq_true rfl) (by decide +kernel) (by omega) ?_
    exact k1 (if_pos hc)
  refine xg_iload_n xa_F_hold_0 rfl ?_
  refine xg_if_lt xa_F_hold_1 (fun c => bad (Or.inl c)) (fun c2 => ?_)
  refine xg_iload_n xa_F_hold_4 rfl ?_
  refine xg_sipush (v := 1000) xa_F_hold_5 (by decide) ?_
  refine xg_icmp_le xa_F_hold_8 (fun c9 => ?_) (fun c => bad (Or.inr c))
  rw [if_neg (fun q => by
    rcases q with q | q
    · exact c2 q
    · exact q c9)] at k0
  refine xg_aload_n xa_F_hold_19 rfl ?_
  refine xg_iload_n xa_F_hold_20 rfl ?_
  refine xg_putf (fs' := [_, _, _, _, _]) xa_F_hold_21 (by assumption) (Nat.le_of_ble_eq_true rfl) rfl rfl (fun h21 u21 => ?_)
  have hF2 := xFc_o hF u21
  have g0 := hF2.1
  refine xg_aload_n xa_F_hold_24 rfl ?_
  refine xg_callV0 xa_F_hold_25 ⟨Nat.le_of_ble_eq_true rfl, Nat.le_of_ble_eq_true rfl, rfl⟩ rfl rfl (by assumption) ?_
  refine c_F_changeOverAll hF2 (fun h3 f3 hF3 hS3 => xK0_d ?_)
  exact xg_return xa_F_hold_28 (k0 rfl _ _ ⟨_, _, _, hF3, r_change (hd := x) I R⟩ ((u21.toS (by omega) (by omega)).tr hS3))
/-- a connection a clock later -/
def xtkK (cut : Int32) (k : xcn) : xcn := if k.1 = true then (k.1, k.2.1, k.2.2.1, k.2.2.2.1, k.2.2.2.2.1, k.2.2.2.2.2.1, k.2.2.2.2.2.2.1, k.2.2.2.2.2.2.2.1, (if xwh k.2.2.2.2.2.1 cut = true ∧ ¬ k.2.2.2.2.2.2.2.1 = 0 then k.2.2.2.2.2.2.2.2 + 1 else k.2.2.2.2.2.2.2.2)) else k
theorem c_F_clock (I : xIn Mn Mm Mh Me Ml Mt Mg Ma Mb Mw Mwk Msp Mon Mct) (hC : xCS h Mn Mm Mh Me Ml Mbr Mlk Mt Mg Ma Mb Mw Mwk Msp Mon Mct)
    (k0 : ∀ h' fl', xCS h' Mn Mm Mh Me Ml Mbr Mlk Mt Mg Ma Mb Mw Mwk Msp (xmix Mt (fun c => (xseF Mm Mh Mbr Mwk Msp Mon (xtkF Mm Mbr Mt Mwk Mon Mct) c).1) Mon 12) (xmix Mt (fun c => (xseF Mm Mh Mbr Mwk Msp Mon (xtkF Mm Mbr Mt Mwk Mon Mct) c).2) (xtkF Mm Mbr Mt Mwk Mon Mct) 12) → xS h h' 0 22 → Q (.inl none) (h', ks, fl')) :
    xG xs LS (d + 6) 3 (0, xm_entry xP 3 [.ref 0], []) (h, ks, true) Q := by
  show xG xs LS (d + 6) 3 (0, [some (.ref 0), none], []) (h, ks, true) Q
  obtain ⟨cut, lk, K, hF, R⟩ := hC
  have loop : ∀ j i h1 fl', i + j = 12 → xFc h1 Mn Mm Me Ml cut lk Mh (xmp (xtkK cut) K i) → xS h h1 0 22 → xG xs LS (d + 6) 3 (2, [some (.ref 0), some (.int (nI i))], []) (h1, ks, fl') Q := by
    intro j
    induction j with
    | zero =>
      intro i h1 fl' hi hF hS
      have ei : i = 12 := by omega
      subst ei
      have g0 := hF.1
      have R2 : xRel cut lk (xmp (xtkK cut) K 12) Mm Mbr Mlk Mt Mg Ma Mb Mw Mwk Msp Mon (xtkF Mm Mbr Mt Mwk Mon Mct) := by
        refine ⟨R.1, R.2.1, fun c hc => ?_, fun c hc ht => ?_⟩
        · rw [← R.2.2.1 c hc]
          show (if c < 12 then xtkK cut (K c) else K c).1 = _
          rw [if_pos hc]
          unfold xtkK
          by_cases z : (K c).1 = true
          · rw [if_pos z]
          · rw [if_neg z]
        · show (if c < 12 then xtkK cut (K c) else K c) = xkm (Mg c) (Ma c) (Mb c) (Mw c) (Mwk c) (Msp c) (Mon c) (if c < 12 then xtk Mm Mbr Mt Mwk Mon Mct c else Mct c)
          rw [if_pos hc, if_pos hc, R.2.2.2 c hc ht]
          have p1 := (r_paths I R.1 hc ht).1
          show xtkK cut (true, Mg c, nI (Ma c), nI (Mb c), nI (Mw c), Mwk c, Msp c, Mon c, Mct c) = _
          unfold xtkK xtk xkm
          rw [if_pos rfl, p1]
          simp only
          by_cases z : xwh (Mwk c) cut = true ∧ ¬ Mon c = 0
          · rw [if_pos z, if_pos ⟨ht, z.2, z.1⟩]
          · rw [if_neg z, if_neg (fun q => z ⟨q.2.2, q.2.1⟩)]
      refine xg_iload_n xa_F_clock_2 rfl ?_
      refine xg_bipush (v := 12) xa_F_clock_3 (by decide) ?_
      refine xg_icmp_ge xa_F_clock_5 (fun _ => ?_) (fun c => absurd (by decide) c)
      refine xg_aload_n xa_F_clock_39 rfl ?_
      refine xg_callV0 xa_F_clock_40 ⟨Nat.le_of_ble_eq_true rfl, Nat.le_of_ble_eq_true rfl, rfl⟩ rfl rfl (by assumption) ?_
      refine c_F_changeOverAll hF (fun h3 f3 hF3 hS3 => xK0_d ?_)
      exact xg_return xa_F_clock_43 (k0 _ _ ⟨_, _, _, hF3, r_change I R2⟩ (hS.tr hS3))
    | succ j ih =>
      intro i h1 fl' hi hF hS
      have hi12 : i < 12 := by omega
      obtain ⟨f0, ⟨on, bk, co, wy, fN⟩, ⟨fa, f9, fj⟩, fK⟩ := id hF
      obtain ⟨f1, f2, f3, f4, f5, f6, f7, f8⟩ := id fN
      have hfi := fj i hi12
      have hci := fK i hi12
      rw [xmp_at] at hci
      refine xg_iload_n xa_F_clock_2 rfl ?_
      refine xg_bipush (v := 12) xa_F_clock_3 (by decide) ?_
      refine xg_icmp_ge xa_F_clock_5 (fun c => absurd c (show ¬ nI 12 ≤ nI i from nI_ge (by omega) (by omega))) (fun _ => ?_)
      refine xg_aload_n xa_F_clock_8 rfl ?_
      refine xg_getfield xa_F_clock_9 (by assumption) rfl ?_
      refine xg_iload_n xa_F_clock_12 rfl ?_
      refine xg_aald_n xa_F_clock_13 (by assumption) rfl (by assumption) (by decide) (by assumption) ?_
      refine xg_getfield xa_F_clock_14 (by assumption) rfl ?_
      refine xg_if_eq xa_F_clock_17 (fun c => ?_) (fun c => ?_)
      · have hx : xtkK cut (K i) = K i := if_neg (by rw [(xz0 _).mp c]; decide)
        rw [← xmp_n hx] at hF
        refine xg_iinc (L' := [_, _]) xa_F_clock_33 rfl (xi_inc _) rfl ?_
        refine xg_goto xa_F_clock_36 ?_
        exact ih (i + 1) h1 _ (by omega) hF hS
      · have hx : xtkK cut (K i) = ((K i).1, (K i).2.1, (K i).2.2.1, (K i).2.2.2.1, (K i).2.2.2.2.1, (K i).2.2.2.2.2.1, (K i).2.2.2.2.2.2.1, (K i).2.2.2.2.2.2.2.1, (if xwh (K i).2.2.2.2.2.1 cut = true ∧ ¬ (K i).2.2.2.2.2.2.2.1 = 0 then (K i).2.2.2.2.2.2.2.2 + 1 else (K i).2.2.2.2.2.2.2.2)) := if_pos (xz1 c)
        refine xg_aload_n xa_F_clock_20 rfl ?_
        refine xg_getfield xa_F_clock_21 (by assumption) rfl ?_
        refine xg_iload_n xa_F_clock_24 rfl ?_
        refine xg_aald_n xa_F_clock_25 (by assumption) rfl (by assumption) (by decide) (by assumption) ?_
        refine xg_aload_n xa_F_clock_26 rfl ?_
        refine xg_getfield xa_F_clock_27 (by assumption) rfl ?_
        refine xg_callV0 xa_F_clock_30 ⟨Nat.le_of_ble_eq_true rfl, Nat.le_of_ble_eq_true rfl, rfl⟩ rfl rfl (by assumption) ?_
        refine c_C_tick hci (fun h2 f2 u => xK0_d ?_)
        have hF2 := xFc_con (k := xtkK cut (K i)) hF hi12 (by rw [hx]; exact u)
        rw [xmp_s] at hF2
        refine xg_iinc (L' := [_, _]) xa_F_clock_33 rfl (xi_inc _) rfl ?_
        refine xg_goto xa_F_clock_36 ?_
        exact ih (i + 1) h2 _ (by omega) hF2 (hS.tr (u.toS (by omega) (by omega)))
  refine xg_iconst (v := 0) xa_F_clock_0 (by decide) ?_
  refine xg_istore_n (L' := [_, _]) xa_F_clock_1 (Nat.le_of_ble_eq_true rfl) rfl ?_
  exact loop 12 0 h _ (by omega) (by rw [xmp_0]; exact hF) xS.rf
end XW1
