/-! 71.wrap: the law's wrappers: what a call throws is caught (written by a program). -/
theorem xa_L_clear_0 : xm_at xP 10 0 = some (0, .aload_n 0, 0, 0, 0, 0) := by decide +kernel
theorem xa_L_clear_1 : xm_at xP 10 1 = some (1, .iload_n 1, 0, 0, 0, 0) := by decide +kernel
theorem xa_L_clear_2 : xm_at xP 10 2 = some (2, .invokevirtual 7, 11, 2, 2, 0) := by decide +kernel
theorem xa_L_clear_5 : xm_at xP 10 5 = some (5, .goto 6, 11, 0, 0, 0) := by decide +kernel
theorem xa_L_clear_8 : xm_at xP 10 8 = some (8, .astore_n 2, 0, 0, 0, 0) := by decide +kernel
theorem xa_L_clear_9 : xm_at xP 10 9 = some (9, .iconst 1, 0, 0, 0, 0) := by decide +kernel
theorem xa_L_clear_10 : xm_at xP 10 10 = some (10, .ireturn, 0, 0, 0, 0) := by decide +kernel
theorem xa_L_clear_11 : xm_at xP 10 11 = some (11, .iconst 0, 0, 0, 0, 0) := by decide +kernel
theorem xa_L_clear_12 : xm_at xP 10 12 = some (12, .ireturn, 0, 0, 0, 0) := by decide +kernel
theorem xa_L_fibre_0 : xm_at xP 13 0 = some (0, .aload 4, 0, 0, 0, 0) := by decide +kernel
theorem xa_L_fibre_2 : xm_at xP 13 2 = some (2, .iconst 0, 0, 0, 0, 0) := by decide +kernel
theorem xa_L_fibre_3 : xm_at xP 13 3 = some (3, .aload_n 0, 0, 0, 0, 0) := by decide +kernel
theorem xa_L_fibre_4 : xm_at xP 13 4 = some (4, .iload_n 1, 0, 0, 0, 0) := by decide +kernel
theorem xa_L_fibre_5 : xm_at xP 13 5 = some (5, .iload_n 2, 0, 0, 0, 0) := by decide +kernel
theorem xa_L_fibre_6 : xm_at xP 13 6 = some (6, .iload_n 3, 0, 0, 0, 0) := by decide +kernel
theorem xa_L_fibre_7 : xm_at xP 13 7 = some (7, .invokevirtual 15, 14, 4, 2, 0) := by decide +kernel
theorem xa_L_fibre_10 : xm_at xP 13 10 = some (10, .i2l, 0, 0, 0, 0) := by decide +kernel
theorem xa_L_fibre_11 : xm_at xP 13 11 = some (11, .lastore, 0, 0, 0, 0) := by decide +kernel
theorem xa_L_fibre_12 : xm_at xP 13 12 = some (12, .goto 15, 27, 0, 0, 0) := by decide +kernel
theorem xa_L_fibre_15 : xm_at xP 13 15 = some (15, .astore 5, 0, 0, 0, 0) := by decide +kernel
theorem xa_L_fibre_17 : xm_at xP 13 17 = some (17, .iconst 1, 0, 0, 0, 0) := by decide +kernel
theorem xa_L_fibre_18 : xm_at xP 13 18 = some (18, .ireturn, 0, 0, 0, 0) := by decide +kernel
theorem xa_L_fibre_19 : xm_at xP 13 19 = some (19, .astore 5, 0, 0, 0, 0) := by decide +kernel
theorem xa_L_fibre_21 : xm_at xP 13 21 = some (21, .iconst 2, 0, 0, 0, 0) := by decide +kernel
theorem xa_L_fibre_22 : xm_at xP 13 22 = some (22, .ireturn, 0, 0, 0, 0) := by decide +kernel
theorem xa_L_fibre_23 : xm_at xP 13 23 = some (23, .astore 5, 0, 0, 0, 0) := by decide +kernel
theorem xa_L_fibre_25 : xm_at xP 13 25 = some (25, .iconst 3, 0, 0, 0, 0) := by decide +kernel
theorem xa_L_fibre_26 : xm_at xP 13 26 = some (26, .ireturn, 0, 0, 0, 0) := by decide +kernel
theorem xa_L_fibre_27 : xm_at xP 13 27 = some (27, .iconst 0, 0, 0, 0, 0) := by decide +kernel
theorem xa_L_fibre_28 : xm_at xP 13 28 = some (28, .ireturn, 0, 0, 0, 0) := by decide +kernel
theorem xa_L_request_0 : xm_at xP 17 0 = some (0, .aload 4, 0, 0, 0, 0) := by decide +kernel
theorem xa_L_request_2 : xm_at xP 17 2 = some (2, .iconst 0, 0, 0, 0, 0) := by decide +kernel
theorem xa_L_request_3 : xm_at xP 17 3 = some (3, .aload_n 0, 0, 0, 0, 0) := by decide +kernel
theorem xa_L_request_4 : xm_at xP 17 4 = some (4, .iload_n 1, 0, 0, 0, 0) := by decide +kernel
theorem xa_L_request_5 : xm_at xP 17 5 = some (5, .iload_n 2, 0, 0, 0, 0) := by decide +kernel
theorem xa_L_request_6 : xm_at xP 17 6 = some (6, .iload_n 3, 0, 0, 0, 0) := by decide +kernel
theorem xa_L_request_7 : xm_at xP 17 7 = some (7, .invokevirtual 23, 18, 4, 2, 0) := by decide +kernel
theorem xa_L_request_10 : xm_at xP 17 10 = some (10, .i2l, 0, 0, 0, 0) := by decide +kernel
theorem xa_L_request_11 : xm_at xP 17 11 = some (11, .lastore, 0, 0, 0, 0) := by decide +kernel
theorem xa_L_request_12 : xm_at xP 17 12 = some (12, .goto 15, 27, 0, 0, 0) := by decide +kernel
theorem xa_L_request_15 : xm_at xP 17 15 = some (15, .astore 5, 0, 0, 0, 0) := by decide +kernel
theorem xa_L_request_17 : xm_at xP 17 17 = some (17, .iconst 1, 0, 0, 0, 0) := by decide +kernel
theorem xa_L_request_18 : xm_at xP 17 18 = some (18, .ireturn, 0, 0, 0, 0) := by decide +kernel
theorem xa_L_request_19 : xm_at xP 17 19 = some (19, .astore 5, 0, 0, 0, 0) := by decide +kernel
theorem xa_L_request_21 : xm_at xP 17 21 = some (21, .iconst 2, 0, 0, 0, 0) := by decide +kernel
theorem xa_L_request_22 : xm_at xP 17 22 = some (22, .ireturn, 0, 0, 0, 0) := by decide +kernel
theorem xa_L_request_23 : xm_at xP 17 23 = some (23, .astore 5, 0, 0, 0, 0) := by decide +kernel
theorem xa_L_request_25 : xm_at xP 17 25 = some (25, .iconst 3, 0, 0, 0, 0) := by decide +kernel
theorem xa_L_request_26 : xm_at xP 17 26 = some (26, .ireturn, 0, 0, 0, 0) := by decide +kernel
theorem xa_L_request_27 : xm_at xP 17 27 = some (27, .iconst 0, 0, 0, 0, 0) := by decide +kernel
theorem xa_L_request_28 : xm_at xP 17 28 = some (28, .ireturn, 0, 0, 0, 0) := by decide +kernel
theorem xa_L_release_0 : xm_at xP 37 0 = some (0, .aload_n 0, 0, 0, 0, 0) := by decide +kernel
theorem xa_L_release_1 : xm_at xP 37 1 = some (1, .iload_n 1, 0, 0, 0, 0) := by decide +kernel
theorem xa_L_release_2 : xm_at xP 37 2 = some (2, .invokevirtual 27, 38, 2, 2, 0) := by decide +kernel
theorem xa_L_release_5 : xm_at xP 37 5 = some (5, .goto 6, 11, 0, 0, 0) := by decide +kernel
theorem xa_L_release_8 : xm_at xP 37 8 = some (8, .astore_n 2, 0, 0, 0, 0) := by decide +kernel
theorem xa_L_release_9 : xm_at xP 37 9 = some (9, .iconst 1, 0, 0, 0, 0) := by decide +kernel
theorem xa_L_release_10 : xm_at xP 37 10 = some (10, .ireturn, 0, 0, 0, 0) := by decide +kernel
theorem xa_L_release_11 : xm_at xP 37 11 = some (11, .iconst 0, 0, 0, 0, 0) := by decide +kernel
theorem xa_L_release_12 : xm_at xP 37 12 = some (12, .ireturn, 0, 0, 0, 0) := by decide +kernel
theorem xa_L_lock_0 : xm_at xP 40 0 = some (0, .aload_n 0, 0, 0, 0, 0) := by decide +kernel
theorem xa_L_lock_1 : xm_at xP 40 1 = some (1, .iload_n 1, 0, 0, 0, 0) := by decide +kernel
theorem xa_L_lock_2 : xm_at xP 40 2 = some (2, .iload_n 2, 0, 0, 0, 0) := by decide +kernel
theorem xa_L_lock_3 : xm_at xP 40 3 = some (3, .invokevirtual 30, 41, 3, 2, 0) := by decide +kernel
theorem xa_L_lock_6 : xm_at xP 40 6 = some (6, .goto 9, 15, 0, 0, 0) := by decide +kernel
theorem xa_L_lock_9 : xm_at xP 40 9 = some (9, .astore_n 3, 0, 0, 0, 0) := by decide +kernel
theorem xa_L_lock_10 : xm_at xP 40 10 = some (10, .iconst 1, 0, 0, 0, 0) := by decide +kernel
theorem xa_L_lock_11 : xm_at xP 40 11 = some (11, .ireturn, 0, 0, 0, 0) := by decide +kernel
theorem xa_L_lock_12 : xm_at xP 40 12 = some (12, .astore_n 3, 0, 0, 0, 0) := by decide +kernel
theorem xa_L_lock_13 : xm_at xP 40 13 = some (13, .iconst 2, 0, 0, 0, 0) := by decide +kernel
theorem xa_L_lock_14 : xm_at xP 40 14 = some (14, .ireturn, 0, 0, 0, 0) := by decide +kernel
theorem xa_L_lock_15 : xm_at xP 40 15 = some (15, .iconst 0, 0, 0, 0, 0) := by decide +kernel
theorem xa_L_lock_16 : xm_at xP 40 16 = some (16, .ireturn, 0, 0, 0, 0) := by decide +kernel
theorem xa_L_cut_0 : xm_at xP 43 0 = some (0, .aload_n 0, 0, 0, 0, 0) := by decide +kernel
theorem xa_L_cut_1 : xm_at xP 43 1 = some (1, .iload_n 1, 0, 0, 0, 0) := by decide +kernel
theorem xa_L_cut_2 : xm_at xP 43 2 = some (2, .invokevirtual 34, 44, 2, 2, 0) := by decide +kernel
theorem xa_L_cut_5 : xm_at xP 43 5 = some (5, .goto 9, 14, 0, 0, 0) := by decide +kernel
theorem xa_L_cut_8 : xm_at xP 43 8 = some (8, .astore_n 2, 0, 0, 0, 0) := by decide +kernel
theorem xa_L_cut_9 : xm_at xP 43 9 = some (9, .iconst 1, 0, 0, 0, 0) := by decide +kernel
theorem xa_L_cut_10 : xm_at xP 43 10 = some (10, .ireturn, 0, 0, 0, 0) := by decide +kernel
theorem xa_L_cut_11 : xm_at xP 43 11 = some (11, .astore_n 2, 0, 0, 0, 0) := by decide +kernel
theorem xa_L_cut_12 : xm_at xP 43 12 = some (12, .iconst 2, 0, 0, 0, 0) := by decide +kernel
theorem xa_L_cut_13 : xm_at xP 43 13 = some (13, .ireturn, 0, 0, 0, 0) := by decide +kernel
theorem xa_L_cut_14 : xm_at xP 43 14 = some (14, .iconst 0, 0, 0, 0, 0) := by decide +kernel
theorem xa_L_cut_15 : xm_at xP 43 15 = some (15, .ireturn, 0, 0, 0, 0) := by decide +kernel
theorem xa_L_mend_0 : xm_at xP 45 0 = some (0, .aload_n 0, 0, 0, 0, 0) := by decide +kernel
theorem xa_L_mend_1 : xm_at xP 45 1 = some (1, .iload_n 1, 0, 0, 0, 0) := by decide +kernel
theorem xa_L_mend_2 : xm_at xP 45 2 = some (2, .invokevirtual 37, 46, 2, 2, 0) := by decide +kernel
theorem xa_L_mend_5 : xm_at xP 45 5 = some (5, .goto 9, 14, 0, 0, 0) := by decide +kernel
theorem xa_L_mend_8 : xm_at xP 45 8 = some (8, .astore_n 2, 0, 0, 0, 0) := by decide +kernel
theorem xa_L_mend_9 : xm_at xP 45 9 = some (9, .iconst 1, 0, 0, 0, 0) := by decide +kernel
theorem xa_L_mend_10 : xm_at xP 45 10 = some (10, .ireturn, 0, 0, 0, 0) := by decide +kernel
theorem xa_L_mend_11 : xm_at xP 45 11 = some (11, .astore_n 2, 0, 0, 0, 0) := by decide +kernel
theorem xa_L_mend_12 : xm_at xP 45 12 = some (12, .iconst 2, 0, 0, 0, 0) := by decide +kernel
theorem xa_L_mend_13 : xm_at xP 45 13 = some (13, .ireturn, 0, 0, 0, 0) := by decide +kernel
theorem xa_L_mend_14 : xm_at xP 45 14 = some (14, .iconst 0, 0, 0, 0, 0) := by decide +kernel
theorem xa_L_mend_15 : xm_at xP 45 15 = some (15, .ireturn, 0, 0, 0, 0) := by decide +kernel
theorem xa_L_hold_0 : xm_at xP 47 0 = some (0, .aload_n 0, 0, 0, 0, 0) := by decide +kernel
theorem xa_L_hold_1 : xm_at xP 47 1 = some (1, .iload_n 1, 0, 0, 0, 0) := by decide +kernel
theorem xa_L_hold_2 : xm_at xP 47 2 = some (2, .invokevirtual 40, 48, 2, 2, 0) := by decide +kernel
theorem xa_L_hold_5 : xm_at xP 47 5 = some (5, .goto 6, 11, 0, 0, 0) := by decide +kernel
theorem xa_L_hold_8 : xm_at xP 47 8 = some (8, .astore_n 2, 0, 0, 0, 0) := by decide +kernel
theorem xa_L_hold_9 : xm_at xP 47 9 = some (9, .iconst 1, 0, 0, 0, 0) := by decide +kernel
theorem xa_L_hold_10 : xm_at xP 47 10 = some (10, .ireturn, 0, 0, 0, 0) := by decide +kernel
theorem xa_L_hold_11 : xm_at xP 47 11 = some (11, .iconst 0, 0, 0, 0, 0) := by decide +kernel
theorem xa_L_hold_12 : xm_at xP 47 12 = some (12, .ireturn, 0, 0, 0, 0) := by decide +kernel
theorem xa_L_path_0 : xm_at xP 49 0 = some (0, .aload 4, 0, 0, 0, 0) := by decide +kernel
theorem xa_L_path_2 : xm_at xP 49 2 = some (2, .iconst 0, 0, 0, 0, 0) := by decide +kernel
theorem xa_L_path_3 : xm_at xP 49 3 = some (3, .aload_n 0, 0, 0, 0, 0) := by decide +kernel
theorem xa_L_path_4 : xm_at xP 49 4 = some (4, .iload_n 1, 0, 0, 0, 0) := by decide +kernel
theorem xa_L_path_5 : xm_at xP 49 5 = some (5, .iload_n 2, 0, 0, 0, 0) := by decide +kernel
theorem xa_L_path_6 : xm_at xP 49 6 = some (6, .iload_n 3, 0, 0, 0, 0) := by decide +kernel
theorem xa_L_path_7 : xm_at xP 49 7 = some (7, .invokevirtual 43, 50, 4, 2, 0) := by decide +kernel
theorem xa_L_path_10 : xm_at xP 49 10 = some (10, .i2l, 0, 0, 0, 0) := by decide +kernel
theorem xa_L_path_11 : xm_at xP 49 11 = some (11, .lastore, 0, 0, 0, 0) := by decide +kernel
theorem xa_L_path_12 : xm_at xP 49 12 = some (12, .goto 7, 19, 0, 0, 0) := by decide +kernel
theorem xa_L_path_15 : xm_at xP 49 15 = some (15, .astore 5, 0, 0, 0, 0) := by decide +kernel
theorem xa_L_path_17 : xm_at xP 49 17 = some (17, .iconst 1, 0, 0, 0, 0) := by decide +kernel
theorem xa_L_path_18 : xm_at xP 49 18 = some (18, .ireturn, 0, 0, 0, 0) := by decide +kernel
theorem xa_L_path_19 : xm_at xP 49 19 = some (19, .iconst 0, 0, 0, 0, 0) := by decide +kernel
theorem xa_L_path_20 : xm_at xP 49 20 = some (20, .ireturn, 0, 0, 0, 0) := by decide +kernel
theorem xa_L_about_0 : xm_at xP 53 0 = some (0, .aload_n 3, 0, 0, 0, 0) := by decide +kernel
theorem xa_L_about_1 : xm_at xP 53 1 = some (1, .iconst 0, 0, 0, 0, 0) := by decide +kernel
theorem xa_L_about_2 : xm_at xP 53 2 = some (2, .aload_n 0, 0, 0, 0, 0) := by decide +kernel
theorem xa_L_about_3 : xm_at xP 53 3 = some (3, .iload_n 1, 0, 0, 0, 0) := by decide +kernel
theorem xa_L_about_4 : xm_at xP 53 4 = some (4, .iload_n 2, 0, 0, 0, 0) := by decide +kernel
theorem xa_L_about_5 : xm_at xP 53 5 = some (5, .invokevirtual 47, 54, 3, 2, 0) := by decide +kernel
theorem xa_L_about_8 : xm_at xP 53 8 = some (8, .i2l, 0, 0, 0, 0) := by decide +kernel
theorem xa_L_about_9 : xm_at xP 53 9 = some (9, .lastore, 0, 0, 0, 0) := by decide +kernel
theorem xa_L_about_10 : xm_at xP 53 10 = some (10, .goto 11, 21, 0, 0, 0) := by decide +kernel
theorem xa_L_about_13 : xm_at xP 53 13 = some (13, .astore 4, 0, 0, 0, 0) := by decide +kernel
theorem xa_L_about_15 : xm_at xP 53 15 = some (15, .iconst 1, 0, 0, 0, 0) := by decide +kernel
theorem xa_L_about_16 : xm_at xP 53 16 = some (16, .ireturn, 0, 0, 0, 0) := by decide +kernel
theorem xa_L_about_17 : xm_at xP 53 17 = some (17, .astore 4, 0, 0, 0, 0) := by decide +kernel
theorem xa_L_about_19 : xm_at xP 53 19 = some (19, .iconst 2, 0, 0, 0, 0) := by decide +kernel
theorem xa_L_about_20 : xm_at xP 53 20 = some (20, .ireturn, 0, 0, 0, 0) := by decide +kernel
theorem xa_L_about_21 : xm_at xP 53 21 = some (21, .iconst 0, 0, 0, 0, 0) := by decide +kernel
theorem xa_L_about_22 : xm_at xP 53 22 = some (22, .ireturn, 0, 0, 0, 0) := by decide +kernel
theorem xa_L_user_0 : xm_at xP 56 0 = some (0, .aload_n 3, 0, 0, 0, 0) := by decide +kernel
theorem xa_L_user_1 : xm_at xP 56 1 = some (1, .iconst 0, 0, 0, 0, 0) := by decide +kernel
theorem xa_L_user_2 : xm_at xP 56 2 = some (2, .aload_n 0, 0, 0, 0, 0) := by decide +kernel
theorem xa_L_user_3 : xm_at xP 56 3 = some (3, .iload_n 1, 0, 0, 0, 0) := by decide +kernel
theorem xa_L_user_4 : xm_at xP 56 4 = some (4, .iload_n 2, 0, 0, 0, 0) := by decide +kernel
theorem xa_L_user_5 : xm_at xP 56 5 = some (5, .invokevirtual 51, 57, 3, 2, 0) := by decide +kernel
theorem xa_L_user_8 : xm_at xP 56 8 = some (8, .i2l, 0, 0, 0, 0) := by decide +kernel
theorem xa_L_user_9 : xm_at xP 56 9 = some (9, .lastore, 0, 0, 0, 0) := by decide +kernel
theorem xa_L_user_10 : xm_at xP 56 10 = some (10, .goto 7, 17, 0, 0, 0) := by decide +kernel
theorem xa_L_user_13 : xm_at xP 56 13 = some (13, .astore 4, 0, 0, 0, 0) := by decide +kernel
theorem xa_L_user_15 : xm_at xP 56 15 = some (15, .iconst 1, 0, 0, 0, 0) := by decide +kernel
theorem xa_L_user_16 : xm_at xP 56 16 = some (16, .ireturn, 0, 0, 0, 0) := by decide +kernel
theorem xa_L_user_17 : xm_at xP 56 17 = some (17, .iconst 0, 0, 0, 0, 0) := by decide +kernel
theorem xa_L_user_18 : xm_at xP 56 18 = some (18, .ireturn, 0, 0, 0, 0) := by decide +kernel
theorem xa_L_move_0 : xm_at xP 59 0 = some (0, .aload_n 2, 0, 0, 0, 0) := by decide +kernel
theorem xa_L_move_1 : xm_at xP 59 1 = some (1, .iconst 0, 0, 0, 0, 0) := by decide +kernel
theorem xa_L_move_2 : xm_at xP 59 2 = some (2, .aload_n 0, 0, 0, 0, 0) := by decide +kernel
theorem xa_L_move_3 : xm_at xP 59 3 = some (3, .iload_n 1, 0, 0, 0, 0) := by decide +kernel
theorem xa_L_move_4 : xm_at xP 59 4 = some (4, .invokevirtual 54, 60, 2, 2, 0) := by decide +kernel
theorem xa_L_move_7 : xm_at xP 59 7 = some (7, .i2l, 0, 0, 0, 0) := by decide +kernel
theorem xa_L_move_8 : xm_at xP 59 8 = some (8, .lastore, 0, 0, 0, 0) := by decide +kernel
theorem xa_L_move_9 : xm_at xP 59 9 = some (9, .goto 6, 15, 0, 0, 0) := by decide +kernel
theorem xa_L_move_12 : xm_at xP 59 12 = some (12, .astore_n 3, 0, 0, 0, 0) := by decide +kernel
theorem xa_L_move_13 : xm_at xP 59 13 = some (13, .iconst 1, 0, 0, 0, 0) := by decide +kernel
theorem xa_L_move_14 : xm_at xP 59 14 = some (14, .ireturn, 0, 0, 0, 0) := by decide +kernel
theorem xa_L_move_15 : xm_at xP 59 15 = some (15, .iconst 0, 0, 0, 0, 0) := by decide +kernel
theorem xa_L_move_16 : xm_at xP 59 16 = some (16, .ireturn, 0, 0, 0, 0) := by decide +kernel
theorem xa_L_fits_0 : xm_at xP 61 0 = some (0, .aload_n 3, 0, 0, 0, 0) := by decide +kernel
theorem xa_L_fits_1 : xm_at xP 61 1 = some (1, .iconst 0, 0, 0, 0, 0) := by decide +kernel
theorem xa_L_fits_2 : xm_at xP 61 2 = some (2, .aload_n 0, 0, 0, 0, 0) := by decide +kernel
theorem xa_L_fits_3 : xm_at xP 61 3 = some (3, .iload_n 1, 0, 0, 0, 0) := by decide +kernel
theorem xa_L_fits_4 : xm_at xP 61 4 = some (4, .iload_n 2, 0, 0, 0, 0) := by decide +kernel
theorem xa_L_fits_5 : xm_at xP 61 5 = some (5, .invokevirtual 58, 62, 3, 2, 0) := by decide +kernel
theorem xa_L_fits_8 : xm_at xP 61 8 = some (8, .i2l, 0, 0, 0, 0) := by decide +kernel
theorem xa_L_fits_9 : xm_at xP 61 9 = some (9, .lastore, 0, 0, 0, 0) := by decide +kernel
theorem xa_L_fits_10 : xm_at xP 61 10 = some (10, .goto 11, 21, 0, 0, 0) := by decide +kernel
theorem xa_L_fits_13 : xm_at xP 61 13 = some (13, .astore 4, 0, 0, 0, 0) := by decide +kernel
theorem xa_L_fits_15 : xm_at xP 61 15 = some (15, .iconst 1, 0, 0, 0, 0) := by decide +kernel
theorem xa_L_fits_16 : xm_at xP 61 16 = some (16, .ireturn, 0, 0, 0, 0) := by decide +kernel
theorem xa_L_fits_17 : xm_at xP 61 17 = some (17, .astore 4, 0, 0, 0, 0) := by decide +kernel
theorem xa_L_fits_19 : xm_at xP 61 19 = some (19, .iconst 2, 0, 0, 0, 0) := by decide +kernel
theorem xa_L_fits_20 : xm_at xP 61 20 = some (20, .ireturn, 0, 0, 0, 0) := by decide +kernel
theorem xa_L_fits_21 : xm_at xP 61 21 = some (21, .iconst 0, 0, 0, 0, 0) := by decide +kernel
theorem xa_L_fits_22 : xm_at xP 61 22 = some (22, .ireturn, 0, 0, 0, 0) := by decide +kernel
theorem xa_L_bridge_0 : xm_at xP 63 0 = some (0, .aload 4, 0, 0, 0, 0) := by decide +kernel
theorem xa_L_bridge_2 : xm_at xP 63 2 = some (2, .iconst 0, 0, 0, 0, 0) := by decide +kernel
theorem xa_L_bridge_3 : xm_at xP 63 3 = some (3, .aload_n 0, 0, 0, 0, 0) := by decide +kernel
theorem xa_L_bridge_4 : xm_at xP 63 4 = some (4, .iload_n 1, 0, 0, 0, 0) := by decide +kernel
theorem xa_L_bridge_5 : xm_at xP 63 5 = some (5, .iload_n 2, 0, 0, 0, 0) := by decide +kernel
theorem xa_L_bridge_6 : xm_at xP 63 6 = some (6, .iload_n 3, 0, 0, 0, 0) := by decide +kernel
theorem xa_L_bridge_7 : xm_at xP 63 7 = some (7, .invokevirtual 61, 64, 4, 2, 0) := by decide +kernel
theorem xa_L_bridge_10 : xm_at xP 63 10 = some (10, .i2l, 0, 0, 0, 0) := by decide +kernel
theorem xa_L_bridge_11 : xm_at xP 63 11 = some (11, .lastore, 0, 0, 0, 0) := by decide +kernel
theorem xa_L_bridge_12 : xm_at xP 63 12 = some (12, .goto 11, 23, 0, 0, 0) := by decide +kernel
theorem xa_L_bridge_15 : xm_at xP 63 15 = some (15, .astore 5, 0, 0, 0, 0) := by decide +kernel
theorem xa_L_bridge_17 : xm_at xP 63 17 = some (17, .iconst 1, 0, 0, 0, 0) := by decide +kernel
theorem xa_L_bridge_18 : xm_at xP 63 18 = some (18, .ireturn, 0, 0, 0, 0) := by decide +kernel
theorem xa_L_bridge_19 : xm_at xP 63 19 = some (19, .astore 5, 0, 0, 0, 0) := by decide +kernel
theorem xa_L_bridge_21 : xm_at xP 63 21 = some (21, .iconst 2, 0, 0, 0, 0) := by decide +kernel
theorem xa_L_bridge_22 : xm_at xP 63 22 = some (22, .ireturn, 0, 0, 0, 0) := by decide +kernel
theorem xa_L_bridge_23 : xm_at xP 63 23 = some (23, .iconst 0, 0, 0, 0, 0) := by decide +kernel
theorem xa_L_bridge_24 : xm_at xP 63 24 = some (24, .ireturn, 0, 0, 0, 0) := by decide +kernel
theorem xa_L_count_0 : xm_at xP 65 0 = some (0, .aload_n 2, 0, 0, 0, 0) := by decide +kernel
theorem xa_L_count_1 : xm_at xP 65 1 = some (1, .iconst 0, 0, 0, 0, 0) := by decide +kernel
theorem xa_L_count_2 : xm_at xP 65 2 = some (2, .aload_n 0, 0, 0, 0, 0) := by decide +kernel
theorem xa_L_count_3 : xm_at xP 65 3 = some (3, .iload_n 1, 0, 0, 0, 0) := by decide +kernel
theorem xa_L_count_4 : xm_at xP 65 4 = some (4, .invokevirtual 64, 66, 2, 2, 0) := by decide +kernel
theorem xa_L_count_7 : xm_at xP 65 7 = some (7, .i2l, 0, 0, 0, 0) := by decide +kernel
theorem xa_L_count_8 : xm_at xP 65 8 = some (8, .lastore, 0, 0, 0, 0) := by decide +kernel
theorem xa_L_count_9 : xm_at xP 65 9 = some (9, .goto 6, 15, 0, 0, 0) := by decide +kernel
theorem xa_L_count_12 : xm_at xP 65 12 = some (12, .astore_n 3, 0, 0, 0, 0) := by decide +kernel
theorem xa_L_count_13 : xm_at xP 65 13 = some (13, .iconst 1, 0, 0, 0, 0) := by decide +kernel
theorem xa_L_count_14 : xm_at xP 65 14 = some (14, .ireturn, 0, 0, 0, 0) := by decide +kernel
theorem xa_L_count_15 : xm_at xP 65 15 = some (15, .iconst 0, 0, 0, 0, 0) := by decide +kernel
theorem xa_L_count_16 : xm_at xP 65 16 = some (16, .ireturn, 0, 0, 0, 0) := by decide +kernel
section XWR
variable {xs : Nat → Int32} {LS d : Nat} {ks : Nat} {fl : Bool} {h : List va_E} {Q : (Option Value ⊕ Nat) → xm_S → Prop}
/-- what a wrapper makes of an answer: the codes of what may be thrown -/
def xWc (cs : List (Nat × Int32)) (Q : (Option Value ⊕ Nat) → xm_S → Prop) (r : Option Value ⊕ Nat) (S : xm_S) : Prop := ∃ i ci c, r = .inr i ∧ S.1[i]? = some (.inr (ci, [])) ∧ (ci, c) ∈ cs ∧ ∀ b, Q (.inl (some (.int c))) (S.1, S.2.1, b)
def xW0 (cs : List (Nat × Int32)) (Q : (Option Value ⊕ Nat) → xm_S → Prop) : (Option Value ⊕ Nat) → xm_S → Prop := fun r S => (r = .inl none ∧ ∀ b, Q (.inl (some (.int 0))) (S.1, S.2.1, b)) ∨ xWc cs Q r S
def xW1 (cs : List (Nat × Int32)) (Q : (Option Value ⊕ Nat) → xm_S → Prop) : (Option Value ⊕ Nat) → xm_S → Prop := fun r S => (∃ v fo, r = .inl (some (.int v)) ∧ S.1[40]? = some (.inl (2, 1, .inr (.inl fo))) ∧ ∀ h2 b, xU S.1 h2 40 (.inl (2, 1, .inr (.inl (vp_updL fo 0 v.toInt64)))) → Q (.inl (some (.int 0))) (h2, S.2.1, b)) ∨ xWc cs Q r S
theorem c_L_clear {a0 : Int32} (hr : ∃ fs, h[0]? = some (.inr (2, fs))) (k : xG xs LS d 11 (0, xm_entry xP 11 [.ref 0, .int a0], []) (h, ks, true) (xW0 [(4, 1)] Q)) : xG xs LS (d + 1) 10 (0, xm_entry xP 10 [.ref 0, .int a0], []) (h, ks, fl) Q := by
  show xG xs LS (d + 1) 10 (0, [some (.ref 0), some (.int a0), none], []) (h, ks, fl) Q
  obtain ⟨fs, hr⟩ := hr
  refine xg_aload_n xa_L_clear_0 rfl ?_
  refine xg_iload_n xa_L_clear_1 rfl ?_
  refine xg_cVT xa_L_clear_2 ⟨Nat.le_of_ble_eq_true rfl, Nat.le_of_ble_eq_true rfl, rfl⟩ rfl rfl (by assumption) ?_
  refine xG.mono k (fun r S hS => ?_)
  obtain ⟨h1, ks1, b1⟩ := S
  rcases hS with ⟨rfl, hq⟩ | ⟨i, ci, c, rfl, hi, hm, hq⟩
  · refine xKX_n ?_
    refine xg_goto xa_L_clear_5 ?_
    refine xg_iconst (v := 0) xa_L_clear_11 (by decide) ?_
    exact xg_ireturn xa_L_clear_12 (hq _)
  · simp only [List.mem_cons, Prod.mk.injEq, List.mem_nil_iff, or_false, List.not_mem_nil] at hm
    rcases hm with ⟨rfl, rfl⟩
    refine xKX_c (t := 8) hi (by decide +kernel) ?_
    refine xg_astore_n (L' := [_, _, _]) xa_L_clear_8 (Nat.le_of_ble_eq_true rfl) rfl ?_
    refine xg_iconst (v := 1) xa_L_clear_9 (by decide) ?_
    exact xg_ireturn xa_L_clear_10 (hq _)
theorem c_L_fibre {a0 a1 a2 : Int32} (hr : ∃ fs, h[0]? = some (.inr (2, fs))) (k : xG xs LS d 14 (0, xm_entry xP 14 [.ref 0, .int a0, .int a1, .int a2], []) (h, ks, true) (xW1 [(5, 1), (4, 2), (6, 3)] Q)) : xG xs LS (d + 1) 13 (0, xm_entry xP 13 [.ref 0, .int a0, .int a1, .int a2, .ref 40], []) (h, ks, fl) Q := by
  show xG xs LS (d + 1) 13 (0, [some (.ref 0), some (.int a0), some (.int a1), some (.int a2), some (.ref 40), none], []) (h, ks, fl) Q
  obtain ⟨fs, hr⟩ := hr
  refine xg_aload xa_L_fibre_0 rfl ?_
  refine xg_iconst (v := 0) xa_L_fibre_2 (by decide) ?_
  refine xg_aload_n xa_L_fibre_3 rfl ?_
  refine xg_iload_n xa_L_fibre_4 rfl ?_
  refine xg_iload_n xa_L_fibre_5 rfl ?_
  refine xg_iload_n xa_L_fibre_6 rfl ?_
  refine xg_cVT xa_L_fibre_7 ⟨Nat.le_of_ble_eq_true rfl, Nat.le_of_ble_eq_true rfl, rfl⟩ rfl rfl (by assumption) ?_
  refine xG.mono k (fun r S hS => ?_)
  obtain ⟨h1, ks1, b1⟩ := S
  rcases hS with ⟨v, fo, rfl, ho, hq⟩ | ⟨i, ci, c, rfl, hi, hm, hq⟩
  · refine xKX_v ?_
    refine xg_i2l xa_L_fibre_10 rfl ?_
    refine xg_last xa_L_fibre_11 ho rfl (by decide) rfl rfl ?_
    refine xg_goto xa_L_fibre_12 ?_
    refine xg_iconst (v := 0) xa_L_fibre_27 (by decide) ?_
    exact xg_ireturn xa_L_fibre_28 (hq _ _ (xU_set ho))
  · simp only [List.mem_cons, Prod.mk.injEq, List.mem_nil_iff, or_false, List.not_mem_nil] at hm
    rcases hm with ⟨rfl, rfl⟩ | ⟨rfl, rfl⟩ | ⟨rfl, rfl⟩
    · refine xKX_c (t := 15) hi (by decide +kernel) ?_
      refine xg_astore (L' := [_, _, _, _, _, _]) xa_L_fibre_15 (Nat.le_of_ble_eq_true rfl) rfl ?_
      refine xg_iconst (v := 1) xa_L_fibre_17 (by decide) ?_
      exact xg_ireturn xa_L_fibre_18 (hq _)
    · refine xKX_c (t := 19) hi (by decide +kernel) ?_
      refine xg_astore (L' := [_, _, _, _, _, _]) xa_L_fibre_19 (Nat.le_of_ble_eq_true rfl) rfl ?_
      refine xg_iconst (v := 2) xa_L_fibre_21 (by decide) ?_
      exact xg_ireturn xa_L_fibre_22 (hq _)
    · refine xKX_c (t := 23) hi (by decide +kernel) ?_
      refine xg_astore (L' := [_, _, _, _, _, _]) xa_L_fibre_23 (Nat.le_of_ble_eq_true rfl) rfl ?_
      refine xg_iconst (v := 3) xa_L_fibre_25 (by decide) ?_
      exact xg_ireturn xa_L_fibre_26 (hq _)
theorem c_L_request {a0 a1 a2 : Int32} (hr : ∃ fs, h[0]? = some (.inr (2, fs))) (k : xG xs LS d 18 (0, xm_entry xP 18 [.ref 0, .int a0, .int a1, .int a2], []) (h, ks, true) (xW1 [(5, 1), (4, 2), (6, 3)] Q)) : xG xs LS (d + 1) 17 (0, xm_entry xP 17 [.ref 0, .int a0, .int a1, .int a2, .ref 40], []) (h, ks, fl) Q := by
  show xG xs LS (d + 1) 17 (0, [some (.ref 0), some (.int a0), some (.int a1), some (.int a2), some (.ref 40), none], []) (h, ks, fl) Q
  obtain ⟨fs, hr⟩ := hr
  refine xg_aload xa_L_request_0 rfl ?_
  refine xg_iconst (v := 0) xa_L_request_2 (by decide) ?_
  refine xg_aload_n xa_L_request_3 rfl ?_
  refine xg_iload_n xa_L_request_4 rfl ?_
  refine xg_iload_n xa_L_request_5 rfl ?_
  refine xg_iload_n xa_L_request_6 rfl ?_
  refine xg_cVT xa_L_request_7 ⟨Nat.le_of_ble_eq_true rfl, Nat.le_of_ble_eq_true rfl, rfl⟩ rfl rfl (by assumption) ?_
  refine xG.mono k (fun r S hS => ?_)
  obtain ⟨h1, ks1, b1⟩ := S
  rcases hS with ⟨v, fo, rfl, ho, hq⟩ | ⟨i, ci, c, rfl, hi, hm, hq⟩
  · refine xKX_v ?_
    refine xg_i2l xa_L_request_10 rfl ?_
    refine xg_last xa_L_request_11 ho rfl (by decide) rfl rfl ?_
    refine xg_goto xa_L_request_12 ?_
    refine xg_iconst (v := 0) xa_L_request_27 (by decide) ?_
    exact xg_ireturn xa_L_request_28 (hq _ _ (xU_set ho))
  · simp only [List.mem_cons, Prod.mk.injEq, List.mem_nil_iff, or_false, List.not_mem_nil] at hm
    rcases hm with ⟨rfl, rfl⟩ | ⟨rfl, rfl⟩ | ⟨rfl, rfl⟩
    · refine xKX_c (t := 15) hi (by decide +kernel) ?_
      refine xg_astore (L' := [_, _, _, _, _, _]) xa_L_request_15 (Nat.le_of_ble_eq_true rfl) rfl ?_
      refine xg_iconst (v := 1) xa_L_request_17 (by decide) ?_
      exact xg_ireturn xa_L_request_18 (hq _)
    · refine xKX_c (t := 19) hi (by decide +kernel) ?_
      refine xg_astore (L' := [_, _, _, _, _, _]) xa_L_request_19 (Nat.le_of_ble_eq_true rfl) rfl ?_
      refine xg_iconst (v := 2) xa_L_request_21 (by decide) ?_
      exact xg_ireturn xa_L_request_22 (hq _)
    · refine xKX_c (t := 23) hi (by decide +kernel) ?_
      refine xg_astore (L' := [_, _, _, _, _, _]) xa_L_request_23 (Nat.le_of_ble_eq_true rfl) rfl ?_
      refine xg_iconst (v := 3) xa_L_request_25 (by decide) ?_
      exact xg_ireturn xa_L_request_26 (hq _)
theorem c_L_release {a0 : Int32} (hr : ∃ fs, h[0]? = some (.inr (2, fs))) (k : xG xs LS d 38 (0, xm_entry xP 38 [.ref 0, .int a0], []) (h, ks, true) (xW0 [(5, 1)] Q)) : xG xs LS (d + 1) 37 (0, xm_entry xP 37 [.ref 0, .int a0], []) (h, ks, fl) Q := by
  show xG xs LS (d + 1) 37 (0, [some (.ref 0), some (.int a0), none], []) (h, ks, fl) Q
  obtain ⟨fs, hr⟩ := hr
  refine xg_aload_n xa_L_release_0 rfl ?_
  refine xg_iload_n xa_L_release_1 rfl ?_
  refine xg_cVT xa_L_release_2 ⟨Nat.le_of_ble_eq_true rfl, Nat.le_of_ble_eq_true rfl, rfl⟩ rfl rfl (by assumption) ?_
  refine xG.mono k (fun r S hS => ?_)
  obtain ⟨h1, ks1, b1⟩ := S
  rcases hS with ⟨rfl, hq⟩ | ⟨i, ci, c, rfl, hi, hm, hq⟩
  · refine xKX_n ?_
    refine xg_goto xa_L_release_5 ?_
    refine xg_iconst (v := 0) xa_L_release_11 (by decide) ?_
    exact xg_ireturn xa_L_release_12 (hq _)
  · simp only [List.mem_cons, Prod.mk.injEq, List.mem_nil_iff, or_false, List.not_mem_nil] at hm
    rcases hm with ⟨rfl, rfl⟩
    refine xKX_c (t := 8) hi (by decide +kernel) ?_
    refine xg_astore_n (L' := [_, _, _]) xa_L_release_8 (Nat.le_of_ble_eq_true rfl) rfl ?_
    refine xg_iconst (v := 1) xa_L_release_9 (by decide) ?_
    exact xg_ireturn xa_L_release_10 (hq _)
theorem c_L_lock {a0 a1 : Int32} (hr : ∃ fs, h[0]? = some (.inr (2, fs))) (k : xG xs LS d 41 (0, xm_entry xP 41 [.ref 0, .int a0, .int a1], []) (h, ks, true) (xW0 [(5, 1), (6, 2)] Q)) : xG xs LS (d + 1) 40 (0, xm_entry xP 40 [.ref 0, .int a0, .int a1], []) (h, ks, fl) Q := by
  show xG xs LS (d + 1) 40 (0, [some (.ref 0), some (.int a0), some (.int a1), none], []) (h, ks, fl) Q
  obtain ⟨fs, hr⟩ := hr
  refine xg_aload_n xa_L_lock_0 rfl ?_
  refine xg_iload_n xa_L_lock_1 rfl ?_
  refine xg_iload_n xa_L_lock_2 rfl ?_
  refine xg_cVT xa_L_lock_3 ⟨Nat.le_of_ble_eq_true rfl, Nat.le_of_ble_eq_true rfl, rfl⟩ rfl rfl (by assumption) ?_
  refine xG.mono k (fun r S hS => ?_)
  obtain ⟨h1, ks1, b1⟩ := S
  rcases hS with ⟨rfl, hq⟩ | ⟨i, ci, c, rfl, hi, hm, hq⟩
  · refine xKX_n ?_
    refine xg_goto xa_L_lock_6 ?_
    refine xg_iconst (v := 0) xa_L_lock_15 (by decide) ?_
    exact xg_ireturn xa_L_lock_16 (hq _)
  · simp only [List.mem_cons, Prod.mk.injEq, List.mem_nil_iff, or_false, List.not_mem_nil] at hm
    rcases hm with ⟨rfl, rfl⟩ | ⟨rfl, rfl⟩
    · refine xKX_c (t := 9) hi (by decide +kernel) ?_
      refine xg_astore_n (L' := [_, _, _, _]) xa_L_lock_9 (Nat.le_of_ble_eq_true rfl) rfl ?_
      refine xg_iconst (v := 1) xa_L_lock_10 (by decide) ?_
      exact xg_ireturn xa_L_lock_11 (hq _)
    · refine xKX_c (t := 12) hi (by decide +kernel) ?_
      refine xg_astore_n (L' := [_, _, _, _]) xa_L_lock_12 (Nat.le_of_ble_eq_true rfl) rfl ?_
      refine xg_iconst (v := 2) xa_L_lock_13 (by decide) ?_
      exact xg_ireturn xa_L_lock_14 (hq _)
theorem c_L_cut {a0 : Int32} (hr : ∃ fs, h[0]? = some (.inr (2, fs))) (k : xG xs LS d 44 (0, xm_entry xP 44 [.ref 0, .int a0], []) (h, ks, true) (xW0 [(5, 1), (6, 2)] Q)) : xG xs LS (d + 1) 43 (0, xm_entry xP 43 [.ref 0, .int a0], []) (h, ks, fl) Q := by
  show xG xs LS (d + 1) 43 (0, [some (.ref 0), some (.int a0), none], []) (h, ks, fl) Q
  obtain ⟨fs, hr⟩ := hr
  refine xg_aload_n xa_L_cut_0 rfl ?_
  refine xg_iload_n xa_L_cut_1 rfl ?_
  refine xg_cVT xa_L_cut_2 ⟨Nat.le_of_ble_eq_true rfl, Nat.le_of_ble_eq_true rfl, rfl⟩ rfl rfl (by assumption) ?_
  refine xG.mono k (fun r S hS => ?_)
  obtain ⟨h1, ks1, b1⟩ := S
  rcases hS with ⟨rfl, hq⟩ | ⟨i, ci, c, rfl, hi, hm, hq⟩
  · refine xKX_n ?_
    refine xg_goto xa_L_cut_5 ?_
    refine xg_iconst (v := 0) xa_L_cut_14 (by decide) ?_
    exact xg_ireturn xa_L_cut_15 (hq _)
  · simp only [List.mem_cons, Prod.mk.injEq, List.mem_nil_iff, or_false, List.not_mem_nil] at hm
    rcases hm with ⟨rfl, rfl⟩ | ⟨rfl, rfl⟩
    · refine xKX_c (t := 8) hi (by decide +kernel) ?_
      refine xg_astore_n (L' := [_, _, _]) xa_L_cut_8 (Nat.le_of_ble_eq_true rfl) rfl ?_
      refine xg_iconst (v := 1) xa_L_cut_9 (by decide) ?_
      exact xg_ireturn xa_L_cut_10 (hq _)
    · refine xKX_c (t := 11) hi (by decide +kernel) ?_
      refine xg_astore_n (L' := [_, _, _]) xa_L_cut_11 (Nat.le_of_ble_eq_true rfl) rfl ?_
      refine xg_iconst (v := 2) xa_L_cut_12 (by decide) ?_
      exact xg_ireturn xa_L_cut_13 (hq _)
theorem c_L_mend {a0 : Int32} (hr : ∃ fs, h[0]? = some (.inr (2, fs))) (k : xG xs LS d 46 (0, xm_entry xP 46 [.ref 0, .int a0], []) (h, ks, true) (xW0 [(5, 1), (6, 2)] Q)) : xG xs LS (d + 1) 45 (0, xm_entry xP 45 [.ref 0, .int a0], []) (h, ks, fl) Q := by
  show xG xs LS (d + 1) 45 (0, [some (.ref 0), some (.int a0), none], []) (h, ks, fl) Q
  obtain ⟨fs, hr⟩ := hr
  refine xg_aload_n xa_L_mend_0 rfl ?_
  refine xg_iload_n xa_L_mend_1 rfl ?_
  refine xg_cVT xa_L_mend_2 ⟨Nat.le_of_ble_eq_true rfl, Nat.le_of_ble_eq_true rfl, rfl⟩ rfl rfl (by assumption) ?_
  refine xG.mono k (fun r S hS => ?_)
  obtain ⟨h1, ks1, b1⟩ := S
  rcases hS with ⟨rfl, hq⟩ | ⟨i, ci, c, rfl, hi, hm, hq⟩
  · refine xKX_n ?_
    refine xg_goto xa_L_mend_5 ?_
    refine xg_iconst (v := 0) xa_L_mend_14 (by decide) ?_
    exact xg_ireturn xa_L_mend_15 (hq _)
  · simp only [List.mem_cons, Prod.mk.injEq, List.mem_nil_iff, or_false, List.not_mem_nil] at hm
    rcases hm with ⟨rfl, rfl⟩ | ⟨rfl, rfl⟩
    · refine xKX_c (t := 8) hi (by decide +kernel) ?_
      refine xg_astore_n (L' := [_, _, _]) xa_L_mend_8 (Nat.le_of_ble_eq_true rfl) rfl ?_
      refine xg_iconst (v := 1) xa_L_mend_9 (by decide) ?_
      exact xg_ireturn xa_L_mend_10 (hq _)
    · refine xKX_c (t := 11) hi (by decide +kernel) ?_
      refine xg_astore_n (L' := [_, _, _]) xa_L_mend_11 (Nat.le_of_ble_eq_true rfl) rfl ?_
      refine xg_iconst (v := 2) xa_L_mend_12 (by decide) ?_
      exact xg_ireturn xa_L_mend_13 (hq _)
theorem c_L_hold {a0 : Int32} (hr : ∃ fs, h[0]? = some (.inr (2, fs))) (k : xG xs LS d 48 (0, xm_entry xP 48 [.ref 0, .int a0], []) (h, ks, true) (xW0 [(4, 1)] Q)) : xG xs LS (d + 1) 47 (0, xm_entry xP 47 [.ref 0, .int a0], []) (h, ks, fl) Q := by
  show xG xs LS (d + 1) 47 (0, [some (.ref 0), some (.int a0), none], []) (h, ks, fl) Q
  obtain ⟨fs, hr⟩ := hr
  refine xg_aload_n xa_L_hold_0 rfl ?_
  refine xg_iload_n xa_L_hold_1 rfl ?_
  refine xg_cVT xa_L_hold_2 ⟨Nat.le_of_ble_eq_true rfl, Nat.le_of_ble_eq_true rfl, rfl⟩ rfl rfl (by assumption) ?_
  refine xG.mono k (fun r S hS => ?_)
  obtain ⟨h1, ks1, b1⟩ := S
  rcases hS with ⟨rfl, hq⟩ | ⟨i, ci, c, rfl, hi, hm, hq⟩
  · refine xKX_n ?_
    refine xg_goto xa_L_hold_5 ?_
    refine xg_iconst (v := 0) xa_L_hold_11 (by decide) ?_
    exact xg_ireturn xa_L_hold_12 (hq _)
  · simp only [List.mem_cons, Prod.mk.injEq, List.mem_nil_iff, or_false, List.not_mem_nil] at hm
    rcases hm with ⟨rfl, rfl⟩
    refine xKX_c (t := 8) hi (by decide +kernel) ?_
    refine xg_astore_n (L' := [_, _, _]) xa_L_hold_8 (Nat.le_of_ble_eq_true rfl) rfl ?_
    refine xg_iconst (v := 1) xa_L_hold_9 (by decide) ?_
    exact xg_ireturn xa_L_hold_10 (hq _)
theorem c_L_path {a0 a1 a2 : Int32} (hr : ∃ fs, h[0]? = some (.inr (2, fs))) (k : xG xs LS d 50 (0, xm_entry xP 50 [.ref 0, .int a0, .int a1, .int a2], []) (h, ks, true) (xW1 [(5, 1)] Q)) : xG xs LS (d + 1) 49 (0, xm_entry xP 49 [.ref 0, .int a0, .int a1, .int a2, .ref 40], []) (h, ks, fl) Q := by
  show xG xs LS (d + 1) 49 (0, [some (.ref 0), some (.int a0), some (.int a1), some (.int a2), some (.ref 40), none], []) (h, ks, fl) Q
  obtain ⟨fs, hr⟩ := hr
  refine xg_aload xa_L_path_0 rfl ?_
  refine xg_iconst (v := 0) xa_L_path_2 (by decide) ?_
  refine xg_aload_n xa_L_path_3 rfl ?_
  refine xg_iload_n xa_L_path_4 rfl ?_
  refine xg_iload_n xa_L_path_5 rfl ?_
  refine xg_iload_n xa_L_path_6 rfl ?_
  refine xg_cVT xa_L_path_7 ⟨Nat.le_of_ble_eq_true rfl, Nat.le_of_ble_eq_true rfl, rfl⟩ rfl rfl (by assumption) ?_
  refine xG.mono k (fun r S hS => ?_)
  obtain ⟨h1, ks1, b1⟩ := S
  rcases hS with ⟨v, fo, rfl, ho, hq⟩ | ⟨i, ci, c, rfl, hi, hm, hq⟩
  · refine xKX_v ?_
    refine xg_i2l xa_L_path_10 rfl ?_
    refine xg_last xa_L_path_11 ho rfl (by decide) rfl rfl ?_
    refine xg_goto xa_L_path_12 ?_
    refine xg_iconst (v := 0) xa_L_path_19 (by decide) ?_
    exact xg_ireturn xa_L_path_20 (hq _ _ (xU_set ho))
  · simp only [List.mem_cons, Prod.mk.injEq, List.mem_nil_iff, or_false, List.not_mem_nil] at hm
    rcases hm with ⟨rfl, rfl⟩
    refine xKX_c (t := 15) hi (by decide +kernel) ?_
    refine xg_astore (L' := [_, _, _, _, _, _]) xa_L_path_15 (Nat.le_of_ble_eq_true rfl) rfl ?_
    refine xg_iconst (v := 1) xa_L_path_17 (by decide) ?_
    exact xg_ireturn xa_L_path_18 (hq _)
theorem c_L_about {a0 a1 : Int32} (hr : ∃ fs, h[0]? = some (.inr (2, fs))) (k : xG xs LS d 54 (0, xm_entry xP 54 [.ref 0, .int a0, .int a1], []) (h, ks, true) (xW1 [(5, 1), (4, 2)] Q)) : xG xs LS (d + 1) 53 (0, xm_entry xP 53 [.ref 0, .int a0, .int a1, .ref 40], []) (h, ks, fl) Q := by
  show xG xs LS (d + 1) 53 (0, [some (.ref 0), some (.int a0), some (.int a1), some (.ref 40), none], []) (h, ks, fl) Q
  obtain ⟨fs, hr⟩ := hr
  refine xg_aload_n xa_L_about_0 rfl ?_
  refine xg_iconst (v := 0) xa_L_about_1 (by decide) ?_
  refine xg_aload_n xa_L_about_2 rfl ?_
  refine xg_iload_n xa_L_about_3 rfl ?_
  refine xg_iload_n xa_L_about_4 rfl ?_
  refine xg_cVT xa_L_about_5 ⟨Nat.le_of_ble_eq_true rfl, Nat.le_of_ble_eq_true rfl, rfl⟩ rfl rfl (by assumption) ?_
  refine xG.mono k (fun r S hS => ?_)
  obtain ⟨h1, ks1, b1⟩ := S
  rcases hS with ⟨v, fo, rfl, ho, hq⟩ | ⟨i, ci, c, rfl, hi, hm, hq⟩
  · refine xKX_v ?_
    refine xg_i2l xa_L_about_8 rfl ?_
    refine xg_last xa_L_about_9 ho rfl (by decide) rfl rfl ?_
    refine xg_goto xa_L_about_10 ?_
    refine xg_iconst (v := 0) xa_L_about_21 (by decide) ?_
    exact xg_ireturn xa_L_about_22 (hq _ _ (xU_set ho))
  · simp only [List.mem_cons, Prod.mk.injEq, List.mem_nil_iff, or_false, List.not_mem_nil] at hm
    rcases hm with ⟨rfl, rfl⟩ | ⟨rfl, rfl⟩
    · refine xKX_c (t := 13) hi (by decide +kernel) ?_
      refine xg_astore (L' := [_, _, _, _, _]) xa_L_about_13 (Nat.le_of_ble_eq_true rfl) rfl ?_
      refine xg_iconst (v := 1) xa_L_about_15 (by decide) ?_
      exact xg_ireturn xa_L_about_16 (hq _)
    · refine xKX_c (t := 17) hi (by decide +kernel) ?_
      refine xg_astore (L' := [_, _, _, _, _]) xa_L_about_17 (Nat.le_of_ble_eq_true rfl) rfl ?_
      refine xg_iconst (v := 2) xa_L_about_19 (by decide) ?_
      exact xg_ireturn xa_L_about_20 (hq _)
theorem c_L_user {a0 a1 : Int32} (hr : ∃ fs, h[0]? = some (.inr (2, fs))) (k : xG xs LS d 57 (0, xm_entry xP 57 [.ref 0, .int a0, .int a1], []) (h, ks, true) (xW1 [(5, 1)] Q)) : xG xs LS (d + 1) 56 (0, xm_entry xP 56 [.ref 0, .int a0, .int a1, .ref 40], []) (h, ks, fl) Q := by
  show xG xs LS (d + 1) 56 (0, [some (.ref 0), some (.int a0), some (.int a1), some (.ref 40), none], []) (h, ks, fl) Q
  obtain ⟨fs, hr⟩ := hr
  refine xg_aload_n xa_L_user_0 rfl ?_
  refine xg_iconst (v := 0) xa_L_user_1 (by decide) ?_
  refine xg_aload_n xa_L_user_2 rfl ?_
  refine xg_iload_n xa_L_user_3 rfl ?_
  refine xg_iload_n xa_L_user_4 rfl ?_
  refine xg_cVT xa_L_user_5 ⟨Nat.le_of_ble_eq_true rfl, Nat.le_of_ble_eq_true rfl, rfl⟩ rfl rfl (by assumption) ?_
  refine xG.mono k (fun r S hS => ?_)
  obtain ⟨h1, ks1, b1⟩ := S
  rcases hS with ⟨v, fo, rfl, ho, hq⟩ | ⟨i, ci, c, rfl, hi, hm, hq⟩
  · refine xKX_v ?_
    refine xg_i2l xa_L_user_8 rfl ?_
    refine xg_last xa_L_user_9 ho rfl (by decide) rfl rfl ?_
    refine xg_goto xa_L_user_10 ?_
    refine xg_iconst (v := 0) xa_L_user_17 (by decide) ?_
    exact xg_ireturn xa_L_user_18 (hq _ _ (xU_set ho))
  · simp only [List.mem_cons, Prod.mk.injEq, List.mem_nil_iff, or_false, List.not_mem_nil] at hm
    rcases hm with ⟨rfl, rfl⟩
    refine xKX_c (t := 13) hi (by decide +kernel) ?_
    refine xg_astore (L' := [_, _, _, _, _]) xa_L_user_13 (Nat.le_of_ble_eq_true rfl) rfl ?_
    refine xg_iconst (v := 1) xa_L_user_15 (by decide) ?_
    exact xg_ireturn xa_L_user_16 (hq _)
theorem c_L_move {a0 : Int32} (hr : ∃ fs, h[0]? = some (.inr (2, fs))) (k : xG xs LS d 60 (0, xm_entry xP 60 [.ref 0, .int a0], []) (h, ks, true) (xW1 [(5, 1)] Q)) : xG xs LS (d + 1) 59 (0, xm_entry xP 59 [.ref 0, .int a0, .ref 40], []) (h, ks, fl) Q := by
  show xG xs LS (d + 1) 59 (0, [some (.ref 0), some (.int a0), some (.ref 40), none], []) (h, ks, fl) Q
  obtain ⟨fs, hr⟩ := hr
  refine xg_aload_n xa_L_move_0 rfl ?_
  refine xg_iconst (v := 0) xa_L_move_1 (by decide) ?_
  refine xg_aload_n xa_L_move_2 rfl ?_
  refine xg_iload_n xa_L_move_3 rfl ?_
  refine xg_cVT xa_L_move_4 ⟨Nat.le_of_ble_eq_true rfl, Nat.le_of_ble_eq_true rfl, rfl⟩ rfl rfl (by assumption) ?_
  refine xG.mono k (fun r S hS => ?_)
  obtain ⟨h1, ks1, b1⟩ := S
  rcases hS with ⟨v, fo, rfl, ho, hq⟩ | ⟨i, ci, c, rfl, hi, hm, hq⟩
  · refine xKX_v ?_
    refine xg_i2l xa_L_move_7 rfl ?_
    refine xg_last xa_L_move_8 ho rfl (by decide) rfl rfl ?_
    refine xg_goto xa_L_move_9 ?_
    refine xg_iconst (v := 0) xa_L_move_15 (by decide) ?_
    exact xg_ireturn xa_L_move_16 (hq _ _ (xU_set ho))
  · simp only [List.mem_cons, Prod.mk.injEq, List.mem_nil_iff, or_false, List.not_mem_nil] at hm
    rcases hm with ⟨rfl, rfl⟩
    refine xKX_c (t := 12) hi (by decide +kernel) ?_
    refine xg_astore_n (L' := [_, _, _, _]) xa_L_move_12 (Nat.le_of_ble_eq_true rfl) rfl ?_
    refine xg_iconst (v := 1) xa_L_move_13 (by decide) ?_
    exact xg_ireturn xa_L_move_14 (hq _)
theorem c_L_fits {a0 a1 : Int32} (hr : ∃ fs, h[0]? = some (.inr (2, fs))) (k : xG xs LS d 62 (0, xm_entry xP 62 [.ref 0, .int a0, .int a1], []) (h, ks, true) (xW1 [(5, 1), (4, 2)] Q)) : xG xs LS (d + 1) 61 (0, xm_entry xP 61 [.ref 0, .int a0, .int a1, .ref 40], []) (h, ks, fl) Q := by
  show xG xs LS (d + 1) 61 (0, [some (.ref 0), some (.int a0), some (.int a1), some (.ref 40), none], []) (h, ks, fl) Q
  obtain ⟨fs, hr⟩ := hr
  refine xg_aload_n xa_L_fits_0 rfl ?_
  refine xg_iconst (v := 0) xa_L_fits_1 (by decide) ?_
  refine xg_aload_n xa_L_fits_2 rfl ?_
  refine xg_iload_n xa_L_fits_3 rfl ?_
  refine xg_iload_n xa_L_fits_4 rfl ?_
  refine xg_cVT xa_L_fits_5 ⟨Nat.le_of_ble_eq_true rfl, Nat.le_of_ble_eq_true rfl, rfl⟩ rfl rfl (by assumption) ?_
  refine xG.mono k (fun r S hS => ?_)
  obtain ⟨h1, ks1, b1⟩ := S
  rcases hS with ⟨v, fo, rfl, ho, hq⟩ | ⟨i, ci, c, rfl, hi, hm, hq⟩
  · refine xKX_v ?_
    refine xg_i2l xa_L_fits_8 rfl ?_
    refine xg_last xa_L_fits_9 ho rfl (by decide) rfl rfl ?_
    refine xg_goto xa_L_fits_10 ?_
    refine xg_iconst (v := 0) xa_L_fits_21 (by decide) ?_
    exact xg_ireturn xa_L_fits_22 (hq _ _ (xU_set ho))
  · simp only [List.mem_cons, Prod.mk.injEq, List.mem_nil_iff, or_false, List.not_mem_nil] at hm
    rcases hm with ⟨rfl, rfl⟩ | ⟨rfl, rfl⟩
    · refine xKX_c (t := 13) hi (by decide +kernel) ?_
      refine xg_astore (L' := [_, _, _, _, _]) xa_L_fits_13 (Nat.le_of_ble_eq_true rfl) rfl ?_
      refine xg_iconst (v := 1) xa_L_fits_15 (by decide) ?_
      exact xg_ireturn xa_L_fits_16 (hq _)
    · refine xKX_c (t := 17) hi (by decide +kernel) ?_
      refine xg_astore (L' := [_, _, _, _, _]) xa_L_fits_17 (Nat.le_of_ble_eq_true rfl) rfl ?_
      refine xg_iconst (v := 2) xa_L_fits_19 (by decide) ?_
      exact xg_ireturn xa_L_fits_20 (hq _)
theorem c_L_bridge {a0 a1 a2 : Int32} (hr : ∃ fs, h[0]? = some (.inr (2, fs))) (k : xG xs LS d 64 (0, xm_entry xP 64 [.ref 0, .int a0, .int a1, .int a2], []) (h, ks, true) (xW1 [(5, 1), (4, 2)] Q)) : xG xs LS (d + 1) 63 (0, xm_entry xP 63 [.ref 0, .int a0, .int a1, .int a2, .ref 40], []) (h, ks, fl) Q := by
  show xG xs LS (d + 1) 63 (0, [some (.ref 0), some (.int a0), some (.int a1), some (.int a2), some (.ref 40), none], []) (h, ks, fl) Q
  obtain ⟨fs, hr⟩ := hr
  refine xg_aload xa_L_bridge_0 rfl ?_
  refine xg_iconst (v := 0) xa_L_bridge_2 (by decide) ?_
  refine xg_aload_n xa_L_bridge_3 rfl ?_
  refine xg_iload_n xa_L_bridge_4 rfl ?_
  refine xg_iload_n xa_L_bridge_5 rfl ?_
  refine xg_iload_n xa_L_bridge_6 rfl ?_
  refine xg_cVT xa_L_bridge_7 ⟨Nat.le_of_ble_eq_true rfl, Nat.le_of_ble_eq_true rfl, rfl⟩ rfl rfl (by assumption) ?_
  refine xG.mono k (fun r S hS => ?_)
  obtain ⟨h1, ks1, b1⟩ := S
  rcases hS with ⟨v, fo, rfl, ho, hq⟩ | ⟨i, ci, c, rfl, hi, hm, hq⟩
  · refine xKX_v ?_
    refine xg_i2l xa_L_bridge_10 rfl ?_
    refine xg_last xa_L_bridge_11 ho rfl (by decide) rfl rfl ?_
    refine xg_goto xa_L_bridge_12 ?_
    refine xg_iconst (v := 0) xa_L_bridge_23 (by decide) ?_
    exact xg_ireturn xa_L_bridge_24 (hq _ _ (xU_set ho))
  · simp only [List.mem_cons, Prod.mk.injEq, List.mem_nil_iff, or_false, List.not_mem_nil] at hm
    rcases hm with ⟨rfl, rfl⟩ | ⟨rfl, rfl⟩
    · refine xKX_c (t := 15) hi (by decide +kernel) ?_
      refine xg_astore (L' := [_, _, _, _, _, _]) xa_L_bridge_15 (Nat.le_of_ble_eq_true rfl) rfl ?_
      refine xg_iconst (v := 1) xa_L_bridge_17 (by decide) ?_
      exact xg_ireturn xa_L_bridge_18 (hq _)
    · refine xKX_c (t := 19) hi (by decide +kernel) ?_
      refine xg_astore (L' := [_, _, _, _, _, _]) xa_L_bridge_19 (Nat.le_of_ble_eq_true rfl) rfl ?_
      refine xg_iconst (v := 2) xa_L_bridge_21 (by decide) ?_
      exact xg_ireturn xa_L_bridge_22 (hq _)
theorem c_L_count {a0 : Int32} (hr : ∃ fs, h[0]? = some (.inr (2, fs))) (k : xG xs LS d 66 (0, xm_entry xP 66 [.ref 0, .int a0], []) (h, ks, true) (xW1 [(4, 1)] Q)) : xG xs LS (d + 1) 65 (0, xm_entry xP 65 [.ref 0, .int a0, .ref 40], []) (h, ks, fl) Q := by
  show xG xs LS (d + 1) 65 (0, [some (.ref 0), some (.int a0), some (.ref 40), none], []) (h, ks, fl) Q
  obtain ⟨fs, hr⟩ := hr
  refine xg_aload_n xa_L_count_0 rfl ?_
  refine xg_iconst (v := 0) xa_L_count_1 (by decide) ?_
  refine xg_aload_n xa_L_count_2 rfl ?_
  refine xg_iload_n xa_L_count_3 rfl ?_
  refine xg_cVT xa_L_count_4 ⟨Nat.le_of_ble_eq_true rfl, Nat.le_of_ble_eq_true rfl, rfl⟩ rfl rfl (by assumption) ?_
  refine xG.mono k (fun r S hS => ?_)
  obtain ⟨h1, ks1, b1⟩ := S
  rcases hS with ⟨v, fo, rfl, ho, hq⟩ | ⟨i, ci, c, rfl, hi, hm, hq⟩
  · refine xKX_v ?_
    refine xg_i2l xa_L_count_7 rfl ?_
    refine xg_last xa_L_count_8 ho rfl (by decide) rfl rfl ?_
    refine xg_goto xa_L_count_9 ?_
    refine xg_iconst (v := 0) xa_L_count_15 (by decide) ?_
    exact xg_ireturn xa_L_count_16 (hq _ _ (xU_set ho))
  · simp only [List.mem_cons, Prod.mk.injEq, List.mem_nil_iff, or_false, List.not_mem_nil] at hm
    rcases hm with ⟨rfl, rfl⟩
    refine xKX_c (t := 12) hi (by decide +kernel) ?_
    refine xg_astore_n (L' := [_, _, _, _]) xa_L_count_12 (Nat.le_of_ble_eq_true rfl) rfl ?_
    refine xg_iconst (v := 1) xa_L_count_13 (by decide) ?_
    exact xg_ireturn xa_L_count_14 (hq _)
end XWR
