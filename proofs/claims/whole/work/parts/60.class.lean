/-! 60.class: the class's cells; calls that may throw; its small methods. -/
theorem xa_F_requireTwoSites_0 : xm_at xP 15 0 = some (0, .iload_n 1, 0, 0, 0, 0) := by decide +kernel
theorem xa_F_requireTwoSites_1 : xm_at xP 15 1 = some (1, .ifCond .lt 29, 30, 0, 0, 0) := by decide +kernel
theorem xa_F_requireTwoSites_4 : xm_at xP 15 4 = some (4, .iload_n 1, 0, 0, 0, 0) := by decide +kernel
theorem xa_F_requireTwoSites_5 : xm_at xP 15 5 = some (5, .aload_n 0, 0, 0, 0, 0) := by decide +kernel
theorem xa_F_requireTwoSites_6 : xm_at xP 15 6 = some (6, .getfield 10, 2, 0, 0, 0) := by decide +kernel
theorem xa_F_requireTwoSites_9 : xm_at xP 15 9 = some (9, .getfield 132, 1, 0, 0, 0) := by decide +kernel
theorem xa_F_requireTwoSites_12 : xm_at xP 15 12 = some (12, .if_icmp .ge 18, 30, 0, 0, 0) := by decide +kernel
theorem xa_F_requireTwoSites_15 : xm_at xP 15 15 = some (15, .iload_n 2, 0, 0, 0, 0) := by decide +kernel
theorem xa_F_requireTwoSites_16 : xm_at xP 15 16 = some (16, .ifCond .lt 14, 30, 0, 0, 0) := by decide +kernel
theorem xa_F_requireTwoSites_19 : xm_at xP 15 19 = some (19, .iload_n 2, 0, 0, 0, 0) := by decide +kernel
theorem xa_F_requireTwoSites_20 : xm_at xP 15 20 = some (20, .aload_n 0, 0, 0, 0, 0) := by decide +kernel
theorem xa_F_requireTwoSites_21 : xm_at xP 15 21 = some (21, .getfield 10, 2, 0, 0, 0) := by decide +kernel
theorem xa_F_requireTwoSites_24 : xm_at xP 15 24 = some (24, .getfield 132, 1, 0, 0, 0) := by decide +kernel
theorem xa_F_requireTwoSites_27 : xm_at xP 15 27 = some (27, .if_icmp .lt 11, 38, 0, 0, 0) := by decide +kernel
theorem xa_F_requireTwoSites_30 : xm_at xP 15 30 = some (30, .new 143, 5, 145, 0, 1) := by decide +kernel
theorem xa_F_requireTwoSites_38 : xm_at xP 15 38 = some (38, .iload_n 1, 0, 0, 0, 0) := by decide +kernel
theorem xa_F_requireTwoSites_39 : xm_at xP 15 39 = some (39, .iload_n 2, 0, 0, 0, 0) := by decide +kernel
theorem xa_F_requireTwoSites_40 : xm_at xP 15 40 = some (40, .if_icmp .ne 11, 51, 0, 0, 0) := by decide +kernel
theorem xa_F_requireTwoSites_43 : xm_at xP 15 43 = some (43, .new 23, 4, 25, 0, 1) := by decide +kernel
theorem xa_F_requireTwoSites_51 : xm_at xP 15 51 = some (51, .return_, 0, 0, 0, 0) := by decide +kernel
theorem xa_F_requireFibre_0 : xm_at xP 42 0 = some (0, .iload_n 1, 0, 0, 0, 0) := by decide +kernel
theorem xa_F_requireFibre_1 : xm_at xP 42 1 = some (1, .ifCond .lt 14, 15, 0, 0, 0) := by decide +kernel
theorem xa_F_requireFibre_4 : xm_at xP 42 4 = some (4, .iload_n 1, 0, 0, 0, 0) := by decide +kernel
theorem xa_F_requireFibre_5 : xm_at xP 42 5 = some (5, .aload_n 0, 0, 0, 0, 0) := by decide +kernel
theorem xa_F_requireFibre_6 : xm_at xP 42 6 = some (6, .getfield 10, 2, 0, 0, 0) := by decide +kernel
theorem xa_F_requireFibre_9 : xm_at xP 42 9 = some (9, .getfield 48, 1, 1, 0, 0) := by decide +kernel
theorem xa_F_requireFibre_12 : xm_at xP 42 12 = some (12, .if_icmp .lt 11, 23, 0, 0, 0) := by decide +kernel
theorem xa_F_requireFibre_15 : xm_at xP 42 15 = some (15, .new 143, 5, 145, 0, 1) := by decide +kernel
theorem xa_F_requireFibre_23 : xm_at xP 42 23 = some (23, .return_, 0, 0, 0, 0) := by decide +kernel
theorem xa_F_requireConnection_0 : xm_at xP 39 0 = some (0, .iload_n 1, 0, 0, 0, 0) := by decide +kernel
theorem xa_F_requireConnection_1 : xm_at xP 39 1 = some (1, .ifCond .lt 21, 22, 0, 0, 0) := by decide +kernel
theorem xa_F_requireConnection_4 : xm_at xP 39 4 = some (4, .iload_n 1, 0, 0, 0, 0) := by decide +kernel
theorem xa_F_requireConnection_5 : xm_at xP 39 5 = some (5, .bipush 12, 0, 0, 0, 0) := by decide +kernel
theorem xa_F_requireConnection_7 : xm_at xP 39 7 = some (7, .if_icmp .ge 15, 22, 0, 0, 0) := by decide +kernel
theorem xa_F_requireConnection_10 : xm_at xP 39 10 = some (10, .aload_n 0, 0, 0, 0, 0) := by decide +kernel
theorem xa_F_requireConnection_11 : xm_at xP 39 11 = some (11, .getfield 18, 2, 1, 0, 0) := by decide +kernel
theorem xa_F_requireConnection_14 : xm_at xP 39 14 = some (14, .iload_n 1, 0, 0, 0, 0) := by decide +kernel
theorem xa_F_requireConnection_15 : xm_at xP 39 15 = some (15, .aaload, 0, 0, 0, 0) := by decide +kernel
theorem xa_F_requireConnection_16 : xm_at xP 39 16 = some (16, .getfield 30, 0, 0, 0, 0) := by decide +kernel
theorem xa_F_requireConnection_19 : xm_at xP 39 19 = some (19, .ifCond .ne 11, 30, 0, 0, 0) := by decide +kernel
theorem xa_F_requireConnection_22 : xm_at xP 39 22 = some (22, .new 143, 5, 145, 0, 1) := by decide +kernel
theorem xa_F_requireConnection_30 : xm_at xP 39 30 = some (30, .return_, 0, 0, 0, 0) := by decide +kernel
theorem xa_F_requireWavelength_0 : xm_at xP 58 0 = some (0, .iload_n 0, 0, 0, 0, 0) := by decide +kernel
theorem xa_F_requireWavelength_1 : xm_at xP 58 1 = some (1, .ifCond .lt 8, 9, 0, 0, 0) := by decide +kernel
theorem xa_F_requireWavelength_4 : xm_at xP 58 4 = some (4, .iload_n 0, 0, 0, 0, 0) := by decide +kernel
theorem xa_F_requireWavelength_5 : xm_at xP 58 5 = some (5, .iconst 4, 0, 0, 0, 0) := by decide +kernel
theorem xa_F_requireWavelength_6 : xm_at xP 58 6 = some (6, .if_icmp .lt 11, 17, 0, 0, 0) := by decide +kernel
theorem xa_F_requireWavelength_9 : xm_at xP 58 9 = some (9, .new 143, 5, 145, 0, 1) := by decide +kernel
theorem xa_F_requireWavelength_17 : xm_at xP 58 17 = some (17, .return_, 0, 0, 0, 0) := by decide +kernel
theorem xa_F_leastNotThere_0 : xm_at xP 19 0 = some (0, .iconst 0, 0, 0, 0, 0) := by decide +kernel
theorem xa_F_leastNotThere_1 : xm_at xP 19 1 = some (1, .istore_n 1, 0, 0, 0, 0) := by decide +kernel
theorem xa_F_leastNotThere_2 : xm_at xP 19 2 = some (2, .iload_n 1, 0, 0, 0, 0) := by decide +kernel
theorem xa_F_leastNotThere_3 : xm_at xP 19 3 = some (3, .bipush 12, 0, 0, 0, 0) := by decide +kernel
theorem xa_F_leastNotThere_5 : xm_at xP 19 5 = some (5, .if_icmp .ge 23, 28, 0, 0, 0) := by decide +kernel
theorem xa_F_leastNotThere_8 : xm_at xP 19 8 = some (8, .aload_n 0, 0, 0, 0, 0) := by decide +kernel
theorem xa_F_leastNotThere_9 : xm_at xP 19 9 = some (9, .getfield 18, 2, 1, 0, 0) := by decide +kernel
theorem xa_F_leastNotThere_12 : xm_at xP 19 12 = some (12, .iload_n 1, 0, 0, 0, 0) := by decide +kernel
theorem xa_F_leastNotThere_13 : xm_at xP 19 13 = some (13, .aaload, 0, 0, 0, 0) := by decide +kernel
theorem xa_F_leastNotThere_14 : xm_at xP 19 14 = some (14, .getfield 30, 0, 0, 0, 0) := by decide +kernel
theorem xa_F_leastNotThere_17 : xm_at xP 19 17 = some (17, .ifCond .ne 5, 22, 0, 0, 0) := by decide +kernel
theorem xa_F_leastNotThere_20 : xm_at xP 19 20 = some (20, .iload_n 1, 0, 0, 0, 0) := by decide +kernel
theorem xa_F_leastNotThere_21 : xm_at xP 19 21 = some (21, .ireturn, 0, 0, 0, 0) := by decide +kernel
theorem xa_F_leastNotThere_22 : xm_at xP 19 22 = some (22, .iinc 1 1, 0, 0, 0, 0) := by decide +kernel
theorem xa_F_leastNotThere_25 : xm_at xP 19 25 = some (25, .goto (-23), 2, 0, 0, 0) := by decide +kernel
theorem xa_F_leastNotThere_28 : xm_at xP 19 28 = some (28, .iconst (-1), 0, 0, 0, 0) := by decide +kernel
theorem xa_F_leastNotThere_29 : xm_at xP 19 29 = some (29, .ireturn, 0, 0, 0, 0) := by decide +kernel
theorem xa_F_connectionsThere_0 : xm_at xP 67 0 = some (0, .iconst 0, 0, 0, 0, 0) := by decide +kernel
theorem xa_F_connectionsThere_1 : xm_at xP 67 1 = some (1, .istore_n 1, 0, 0, 0, 0) := by decide +kernel
theorem xa_F_connectionsThere_2 : xm_at xP 67 2 = some (2, .iconst 0, 0, 0, 0, 0) := by decide +kernel
theorem xa_F_connectionsThere_3 : xm_at xP 67 3 = some (3, .istore_n 2, 0, 0, 0, 0) := by decide +kernel
theorem xa_F_connectionsThere_4 : xm_at xP 67 4 = some (4, .iload_n 2, 0, 0, 0, 0) := by decide +kernel
theorem xa_F_connectionsThere_5 : xm_at xP 67 5 = some (5, .bipush 12, 0, 0, 0, 0) := by decide +kernel
theorem xa_F_connectionsThere_7 : xm_at xP 67 7 = some (7, .if_icmp .ge 24, 31, 0, 0, 0) := by decide +kernel
theorem xa_F_connectionsThere_10 : xm_at xP 67 10 = some (10, .aload_n 0, 0, 0, 0, 0) := by decide +kernel
theorem xa_F_connectionsThere_11 : xm_at xP 67 11 = some (11, .getfield 18, 2, 1, 0, 0) := by decide +kernel
theorem xa_F_connectionsThere_14 : xm_at xP 67 14 = some (14, .iload_n 2, 0, 0, 0, 0) := by decide +kernel
theorem xa_F_connectionsThere_15 : xm_at xP 67 15 = some (15, .aaload, 0, 0, 0, 0) := by decide +kernel
theorem xa_F_connectionsThere_16 : xm_at xP 67 16 = some (16, .getfield 30, 0, 0, 0, 0) := by decide +kernel
theorem xa_F_connectionsThere_19 : xm_at xP 67 19 = some (19, .ifCond .eq 6, 25, 0, 0, 0) := by decide +kernel
theorem xa_F_connectionsThere_22 : xm_at xP 67 22 = some (22, .iinc 1 1, 0, 0, 0, 0) := by decide +kernel
theorem xa_F_connectionsThere_25 : xm_at xP 67 25 = some (25, .iinc 2 1, 0, 0, 0, 0) := by decide +kernel
theorem xa_F_connectionsThere_28 : xm_at xP 67 28 = some (28, .goto (-24), 4, 0, 0, 0) := by decide +kernel
theorem xa_F_connectionsThere_31 : xm_at xP 67 31 = some (31, .iload_n 1, 0, 0, 0, 0) := by decide +kernel
theorem xa_F_connectionsThere_32 : xm_at xP 67 32 = some (32, .ireturn, 0, 0, 0, 0) := by decide +kernel
theorem xa_F_freeOn_0 : xm_at xP 22 0 = some (0, .aload_n 0, 0, 0, 0, 0) := by decide +kernel
theorem xa_F_freeOn_1 : xm_at xP 22 1 = some (1, .getfield 34, 2, 2, 0, 0) := by decide +kernel
theorem xa_F_freeOn_4 : xm_at xP 22 4 = some (4, .aload_n 0, 0, 0, 0, 0) := by decide +kernel
theorem xa_F_freeOn_5 : xm_at xP 22 5 = some (5, .getfield 38, 2, 3, 0, 0) := by decide +kernel
theorem xa_F_freeOn_8 : xm_at xP 22 8 = some (8, .ior, 0, 0, 0, 0) := by decide +kernel
theorem xa_F_freeOn_9 : xm_at xP 22 9 = some (9, .istore_n 2, 0, 0, 0, 0) := by decide +kernel
theorem xa_F_freeOn_10 : xm_at xP 22 10 = some (10, .iconst 0, 0, 0, 0, 0) := by decide +kernel
theorem xa_F_freeOn_11 : xm_at xP 22 11 = some (11, .istore_n 3, 0, 0, 0, 0) := by decide +kernel
theorem xa_F_freeOn_12 : xm_at xP 22 12 = some (12, .iload_n 3, 0, 0, 0, 0) := by decide +kernel
theorem xa_F_freeOn_13 : xm_at xP 22 13 = some (13, .bipush 12, 0, 0, 0, 0) := by decide +kernel
theorem xa_F_freeOn_15 : xm_at xP 22 15 = some (15, .if_icmp .ge 22, 37, 0, 0, 0) := by decide +kernel
theorem xa_F_freeOn_18 : xm_at xP 22 18 = some (18, .iload_n 2, 0, 0, 0, 0) := by decide +kernel
theorem xa_F_freeOn_19 : xm_at xP 22 19 = some (19, .aload_n 0, 0, 0, 0, 0) := by decide +kernel
theorem xa_F_freeOn_20 : xm_at xP 22 20 = some (20, .getfield 18, 2, 1, 0, 0) := by decide +kernel
theorem xa_F_freeOn_23 : xm_at xP 22 23 = some (23, .iload_n 3, 0, 0, 0, 0) := by decide +kernel
theorem xa_F_freeOn_24 : xm_at xP 22 24 = some (24, .aaload, 0, 0, 0, 0) := by decide +kernel
theorem xa_F_freeOn_25 : xm_at xP 22 25 = some (25, .iload_n 1, 0, 0, 0, 0) := by decide +kernel
theorem xa_F_freeOn_26 : xm_at xP 22 26 = some (26, .invokevirtual 120, 23, 2, 0, 0) := by decide +kernel
theorem xa_F_freeOn_29 : xm_at xP 22 29 = some (29, .ior, 0, 0, 0, 0) := by decide +kernel
theorem xa_F_freeOn_30 : xm_at xP 22 30 = some (30, .istore_n 2, 0, 0, 0, 0) := by decide +kernel
theorem xa_F_freeOn_31 : xm_at xP 22 31 = some (31, .iinc 3 1, 0, 0, 0, 0) := by decide +kernel
theorem xa_F_freeOn_34 : xm_at xP 22 34 = some (34, .goto (-22), 12, 0, 0, 0) := by decide +kernel
theorem xa_F_freeOn_37 : xm_at xP 22 37 = some (37, .aload_n 0, 0, 0, 0, 0) := by decide +kernel
theorem xa_F_freeOn_38 : xm_at xP 22 38 = some (38, .getfield 10, 2, 0, 0, 0) := by decide +kernel
theorem xa_F_freeOn_41 : xm_at xP 22 41 = some (41, .invokevirtual 146, 24, 1, 1, 0) := by decide +kernel
theorem xa_F_freeOn_44 : xm_at xP 22 44 = some (44, .iload_n 2, 0, 0, 0, 0) := by decide +kernel
theorem xa_F_freeOn_45 : xm_at xP 22 45 = some (45, .iconst (-1), 0, 0, 0, 0) := by decide +kernel
theorem xa_F_freeOn_46 : xm_at xP 22 46 = some (46, .ixor, 0, 0, 0, 0) := by decide +kernel
theorem xa_F_freeOn_47 : xm_at xP 22 47 = some (47, .iand, 0, 0, 0, 0) := by decide +kernel
theorem xa_F_freeOn_48 : xm_at xP 22 48 = some (48, .ireturn, 0, 0, 0, 0) := by decide +kernel
theorem xa_F_changeOverAll_0 : xm_at xP 6 0 = some (0, .iconst 0, 0, 0, 0, 0) := by decide +kernel
theorem xa_F_changeOverAll_1 : xm_at xP 6 1 = some (1, .istore_n 1, 0, 0, 0, 0) := by decide +kernel
theorem xa_F_changeOverAll_2 : xm_at xP 6 2 = some (2, .iload_n 1, 0, 0, 0, 0) := by decide +kernel
theorem xa_F_changeOverAll_3 : xm_at xP 6 3 = some (3, .bipush 12, 0, 0, 0, 0) := by decide +kernel
theorem xa_F_changeOverAll_5 : xm_at xP 6 5 = some (5, .if_icmp .ge 38, 43, 0, 0, 0) := by decide +kernel
theorem xa_F_changeOverAll_8 : xm_at xP 6 8 = some (8, .aload_n 0, 0, 0, 0, 0) := by decide +kernel
theorem xa_F_changeOverAll_9 : xm_at xP 6 9 = some (9, .getfield 18, 2, 1, 0, 0) := by decide +kernel
theorem xa_F_changeOverAll_12 : xm_at xP 6 12 = some (12, .iload_n 1, 0, 0, 0, 0) := by decide +kernel
theorem xa_F_changeOverAll_13 : xm_at xP 6 13 = some (13, .aaload, 0, 0, 0, 0) := by decide +kernel
theorem xa_F_changeOverAll_14 : xm_at xP 6 14 = some (14, .getfield 30, 0, 0, 0, 0) := by decide +kernel
theorem xa_F_changeOverAll_17 : xm_at xP 6 17 = some (17, .ifCond .eq 20, 37, 0, 0, 0) := by decide +kernel
theorem xa_F_changeOverAll_20 : xm_at xP 6 20 = some (20, .aload_n 0, 0, 0, 0, 0) := by decide +kernel
theorem xa_F_changeOverAll_21 : xm_at xP 6 21 = some (21, .getfield 18, 2, 1, 0, 0) := by decide +kernel
theorem xa_F_changeOverAll_24 : xm_at xP 6 24 = some (24, .iload_n 1, 0, 0, 0, 0) := by decide +kernel
theorem xa_F_changeOverAll_25 : xm_at xP 6 25 = some (25, .aaload, 0, 0, 0, 0) := by decide +kernel
theorem xa_F_changeOverAll_26 : xm_at xP 6 26 = some (26, .aload_n 0, 0, 0, 0, 0) := by decide +kernel
theorem xa_F_changeOverAll_27 : xm_at xP 6 27 = some (27, .getfield 34, 2, 2, 0, 0) := by decide +kernel
theorem xa_F_changeOverAll_30 : xm_at xP 6 30 = some (30, .aload_n 0, 0, 0, 0, 0) := by decide +kernel
theorem xa_F_changeOverAll_31 : xm_at xP 6 31 = some (31, .getfield 41, 2, 4, 0, 0) := by decide +kernel
theorem xa_F_changeOverAll_34 : xm_at xP 6 34 = some (34, .invokevirtual 153, 7, 3, 0, 0) := by decide +kernel
theorem xa_F_changeOverAll_37 : xm_at xP 6 37 = some (37, .iinc 1 1, 0, 0, 0, 0) := by decide +kernel
theorem xa_F_changeOverAll_40 : xm_at xP 6 40 = some (40, .goto (-38), 2, 0, 0, 0) := by decide +kernel
theorem xa_F_changeOverAll_43 : xm_at xP 6 43 = some (43, .return_, 0, 0, 0, 0) := by decide +kernel
theorem xa_J_bitCount_0 : xm_at xP 52 0 = some (0, .iload_n 0, 0, 0, 0, 0) := by decide +kernel
theorem xa_J_bitCount_1 : xm_at xP 52 1 = some (1, .iload_n 0, 0, 0, 0, 0) := by decide +kernel
theorem xa_J_bitCount_2 : xm_at xP 52 2 = some (2, .iconst 1, 0, 0, 0, 0) := by decide +kernel
theorem xa_J_bitCount_3 : xm_at xP 52 3 = some (3, .iushr, 0, 0, 0, 0) := by decide +kernel
theorem xa_J_bitCount_4 : xm_at xP 52 4 = some (4, .ldc_w 265, 1431655765, 0, 0, 0) := by decide +kernel
theorem xa_J_bitCount_7 : xm_at xP 52 7 = some (7, .iand, 0, 0, 0, 0) := by decide +kernel
theorem xa_J_bitCount_8 : xm_at xP 52 8 = some (8, .isub, 0, 0, 0, 0) := by decide +kernel
theorem xa_J_bitCount_9 : xm_at xP 52 9 = some (9, .istore_n 0, 0, 0, 0, 0) := by decide +kernel
theorem xa_J_bitCount_10 : xm_at xP 52 10 = some (10, .iload_n 0, 0, 0, 0, 0) := by decide +kernel
theorem xa_J_bitCount_11 : xm_at xP 52 11 = some (11, .ldc_w 266, 858993459, 0, 0, 0) := by decide +kernel
theorem xa_J_bitCount_14 : xm_at xP 52 14 = some (14, .iand, 0, 0, 0, 0) := by decide +kernel
theorem xa_J_bitCount_15 : xm_at xP 52 15 = some (15, .iload_n 0, 0, 0, 0, 0) := by decide +kernel
theorem xa_J_bitCount_16 : xm_at xP 52 16 = some (16, .iconst 2, 0, 0, 0, 0) := by decide +kernel
theorem xa_J_bitCount_17 : xm_at xP 52 17 = some (17, .iushr, 0, 0, 0, 0) := by decide +kernel
theorem xa_J_bitCount_18 : xm_at xP 52 18 = some (18, .ldc_w 266, 858993459, 0, 0, 0) := by decide +kernel
theorem xa_J_bitCount_21 : xm_at xP 52 21 = some (21, .iand, 0, 0, 0, 0) := by decide +kernel
theorem xa_J_bitCount_22 : xm_at xP 52 22 = some (22, .iadd, 0, 0, 0, 0) := by decide +kernel
theorem xa_J_bitCount_23 : xm_at xP 52 23 = some (23, .istore_n 0, 0, 0, 0, 0) := by decide +kernel
theorem xa_J_bitCount_24 : xm_at xP 52 24 = some (24, .iload_n 0, 0, 0, 0, 0) := by decide +kernel
theorem xa_J_bitCount_25 : xm_at xP 52 25 = some (25, .iload_n 0, 0, 0, 0, 0) := by decide +kernel
theorem xa_J_bitCount_26 : xm_at xP 52 26 = some (26, .iconst 4, 0, 0, 0, 0) := by decide +kernel
theorem xa_J_bitCount_27 : xm_at xP 52 27 = some (27, .iushr, 0, 0, 0, 0) := by decide +kernel
theorem xa_J_bitCount_28 : xm_at xP 52 28 = some (28, .iadd, 0, 0, 0, 0) := by decide +kernel
theorem xa_J_bitCount_29 : xm_at xP 52 29 = some (29, .ldc_w 267, 252645135, 0, 0, 0) := by decide +kernel
theorem xa_J_bitCount_32 : xm_at xP 52 32 = some (32, .iand, 0, 0, 0, 0) := by decide +kernel
theorem xa_J_bitCount_33 : xm_at xP 52 33 = some (33, .istore_n 0, 0, 0, 0, 0) := by decide +kernel
theorem xa_J_bitCount_34 : xm_at xP 52 34 = some (34, .iload_n 0, 0, 0, 0, 0) := by decide +kernel
theorem xa_J_bitCount_35 : xm_at xP 52 35 = some (35, .iload_n 0, 0, 0, 0, 0) := by decide +kernel
theorem xa_J_bitCount_36 : xm_at xP 52 36 = some (36, .bipush 8, 0, 0, 0, 0) := by decide +kernel
theorem xa_J_bitCount_38 : xm_at xP 52 38 = some (38, .iushr, 0, 0, 0, 0) := by decide +kernel
theorem xa_J_bitCount_39 : xm_at xP 52 39 = some (39, .iadd, 0, 0, 0, 0) := by decide +kernel
theorem xa_J_bitCount_40 : xm_at xP 52 40 = some (40, .istore_n 0, 0, 0, 0, 0) := by decide +kernel
theorem xa_J_bitCount_41 : xm_at xP 52 41 = some (41, .iload_n 0, 0, 0, 0, 0) := by decide +kernel
theorem xa_J_bitCount_42 : xm_at xP 52 42 = some (42, .iload_n 0, 0, 0, 0, 0) := by decide +kernel
theorem xa_J_bitCount_43 : xm_at xP 52 43 = some (43, .bipush 16, 0, 0, 0, 0) := by decide +kernel
theorem xa_J_bitCount_45 : xm_at xP 52 45 = some (45, .iushr, 0, 0, 0, 0) := by decide +kernel
theorem xa_J_bitCount_46 : xm_at xP 52 46 = some (46, .iadd, 0, 0, 0, 0) := by decide +kernel
theorem xa_J_bitCount_47 : xm_at xP 52 47 = some (47, .istore_n 0, 0, 0, 0, 0) := by decide +kernel
theorem xa_J_bitCount_48 : xm_at xP 52 48 = some (48, .iload_n 0, 0, 0, 0, 0) := by decide +kernel
theorem xa_J_bitCount_49 : xm_at xP 52 49 = some (49, .bipush 63, 0, 0, 0, 0) := by decide +kernel
theorem xa_J_bitCount_51 : xm_at xP 52 51 = some (51, .iand, 0, 0, 0, 0) := by decide +kernel
theorem xa_J_bitCount_52 : xm_at xP 52 52 = some (52, .ireturn, 0, 0, 0, 0) := by decide +kernel
section XT
variable {xs : Nat → Int32} {LS d mi pc a0 b0 k0 d0 : Nat} {L : List (Option Value)} {st rest : List Value} {h : List va_E} {ks : Nat} {fl : Bool} {Q : (Option Value ⊕ Nat) → xm_S → Prop}
/-- going on behind a call that may throw -/
def xKX (xs : Nat → Int32) (LS d mi pc : Nat) (L : List (Option Value)) (rest : List Value) (fl : Bool) (Q : (Option Value ⊕ Nat) → xm_S → Prop) : (Option Value ⊕ Nat) → xm_S → Prop := fun r S' =>
  (∃ v, r = .inl v ∧ xG xs LS d mi (pc + 3, L, v.toList ++ rest) (S'.1, S'.2.1, fl && S'.2.2) Q) ∨ (∃ i ci fs, r = .inr i ∧ S'.1[i]? = some (.inr (ci, fs)) ∧ ((∃ t, xm_hand xP mi pc ci = some t ∧ xG xs LS d mi (t, L, [.ref i]) (S'.1, S'.2.1, false) Q) ∨ (xm_hand xP mi pc ci = none ∧ (fl && xm_noH xP mi) = true ∧ Q (.inr i) (S'.1, S'.2.1, true))))
theorem xKX_n {b : Bool} (k : xG xs LS d mi (pc + 3, L, rest) (h, ks, fl && b) Q) : xKX xs LS d mi pc L rest fl Q (.inl none) (h, ks, b) := Or.inl ⟨none, rfl, k⟩
theorem xKX_v {v : Value} {b : Bool} (k : xG xs LS d mi (pc + 3, L, v :: rest) (h, ks, fl && b) Q) : xKX xs LS d mi pc L rest fl Q (.inl (some v)) (h, ks, b) := Or.inl ⟨some v, rfl, k⟩
theorem xKX_up {i ci : Nat} {fs : List Value} {b : Bool} (hi : h[i]? = some (.inr (ci, fs))) (hh : xm_hand xP mi pc ci = none) (hn : xm_noH xP mi = true) (k : Q (.inr i) (h, ks, true)) : xKX xs LS d mi pc L rest true Q (.inr i) (h, ks, b) := Or.inr ⟨i, ci, fs, rfl, hi, Or.inr ⟨hh, by rw [hn]; rfl, k⟩⟩
theorem xKX_c {i ci t : Nat} {fs : List Value} {b : Bool} (hi : h[i]? = some (.inr (ci, fs))) (hh : xm_hand xP mi pc ci = some t) (k : xG xs LS d mi (t, L, [.ref i]) (h, ks, false) Q) : xKX xs LS d mi pc L rest fl Q (.inr i) (h, ks, b) := Or.inr ⟨i, ci, fs, rfl, hi, Or.inl ⟨t, hh, k⟩⟩
theorem xg_cVT {ix r : Nat} {as fs : List Value} (ha : xm_at xP mi pc = some (pc, .invokevirtual ix, a0, b0, k0, d0)) (hb : b0 ≤ st.length ∧ (st.drop b0).length ≤ 4 ∧ (st.take b0).all xm_cat = true) (hs : (st.take b0).reverse = .ref r :: as) (hd : st.drop b0 = rest) (hr : h[r]? = some (.inr (k0, fs))) (k : xG xs LS d a0 (0, xm_entry xP a0 (.ref r :: as), []) (h, ks, true) (xKX xs LS (d + 1) mi pc L rest fl Q)) : xG xs LS (d + 1) mi (pc, L, st) (h, ks, fl) Q := xg_callVT ha hb hs hd hr k
theorem xg_cST {ix : Nat} {as : List Value} (ha : xm_at xP mi pc = some (pc, .invokestatic ix, a0, b0, k0, d0)) (hb : b0 ≤ st.length ∧ (st.drop b0).length ≤ 4 ∧ (st.take b0).all xm_cat = true) (hs : (st.take b0).reverse = as) (hd : st.drop b0 = rest) (k : xG xs LS d a0 (0, xm_entry xP a0 as, []) (h, ks, true) (xKX xs LS (d + 1) mi pc L rest fl Q)) : xG xs LS (d + 1) mi (pc, L, st) (h, ks, fl) Q := xg_callST ha hb hs hd k
theorem xlast (h : List va_E) (c : va_E) : (h ++ [c])[h.length]? = some c := by simp
end XT
section XF
variable {xs : Nat → Int32} {LS d : Nat} {ks : Nat} {fl : Bool} {h h' : List va_E} {Q : (Option Value ⊕ Nat) → xm_S → Prop}
/-- a connection -/
abbrev xcn : Type := Bool × Bool × Int32 × Int32 × Int32 × Int32 × Int32 × Int32 × Int32
abbrev xcl (k : xcn) : va_E := xcell k.1 k.2.1 k.2.2.1 k.2.2.2.1 k.2.2.2.2.1 k.2.2.2.2.2.1 k.2.2.2.2.2.2.1 k.2.2.2.2.2.2.2.1 k.2.2.2.2.2.2.2.2
/-- the class's cells -/
def xFc (h : List va_E) (n m : Nat) (e l : Nat → Nat) (cut lk hd : Int32) (K : Nat → xcn) : Prop :=
  h[0]? = some (.inr (2, [.ref 1, .ref 9, .int cut, .int lk, .int hd])) ∧ xNs h n m (gfr e) (gto e) (gln l) ∧ (∃ fa : Nat → Option Nat, h[9]? = some (.inl (3, 12, .inr (.inr (.inr (.inr fa))))) ∧ ∀ j, j < 12 → fa j = some (10 + j)) ∧ ∀ c, c < 12 → h[10 + c]? = some (xcl (K c))
variable {n m : Nat} {e l : Nat → Nat} {cut lk hd : Int32} {K : Nat → xcn}
theorem xFc_net {e' l' : Nat → Nat} {n' m' : Nat} (hF : xFc h n m e l cut lk hd K) (hN : xNs h' n' m' (gfr e') (gto e') (gln l')) (hS : xS h h' 1 9) : xFc h' n' m' e' l' cut lk hd K := by
  obtain ⟨h1, h2, ⟨fa, h3, h4⟩, h5⟩ := hF
  exact ⟨(hS.2 0 (by omega)).trans h1, hN, ⟨fa, (hS.2 9 (by omega)).trans h3, h4⟩, fun c hc => (hS.2 (10 + c) (by omega)).trans (h5 c hc)⟩
theorem xFc_con {c : Nat} {k : xcn} (hF : xFc h n m e l cut lk hd K) (hc : c < 12) (u : xU h h' (10 + c) (xcl k)) : xFc h' n m e l cut lk hd (xup K c k) := by
  obtain ⟨h1, ⟨on, bk, co, wy, g1, g2, g3, g4, g5, g6, g7, g8⟩, ⟨fa, h3, h4⟩, h5⟩ := hF
  have q : ∀ j, j < 10 → h'[j]? = h[j]? := fun j hj => u.2.2 j (by omega)
  refine ⟨(q 0 (by omega)).trans h1, ⟨on, bk, co, wy, (q 1 (by omega)).trans g1, (q 2 (by omega)).trans g2, (q 3 (by omega)).trans g3, (q 4 (by omega)).trans g4, (q 5 (by omega)).trans g5, (q 6 (by omega)).trans g6, (q 7 (by omega)).trans g7, (q 8 (by omega)).trans g8⟩, ⟨fa, (q 9 (by omega)).trans h3, h4⟩, fun j hj => ?_⟩
  by_cases z : j = c
  · rw [z, xup_s]
    exact u.2.1
  · rw [xup_n _ _ z]
    exact (u.2.2 (10 + j) (by omega)).trans (h5 j hj)
theorem xFc_o {cut' lk' hd' : Int32} (hF : xFc h n m e l cut lk hd K) (u : xU h h' 0 (.inr (2, [.ref 1, .ref 9, .int cut', .int lk', .int hd']))) : xFc h' n m e l cut' lk' hd' K := by
  obtain ⟨h1, ⟨on, bk, co, wy, g1, g2, g3, g4, g5, g6, g7, g8⟩, ⟨fa, h3, h4⟩, h5⟩ := hF
  have q : ∀ j, 0 < j → h'[j]? = h[j]? := fun j hj => u.2.2 j (by omega)
  exact ⟨u.2.1, ⟨on, bk, co, wy, (q 1 (by omega)).trans g1, (q 2 (by omega)).trans g2, (q 3 (by omega)).trans g3, (q 4 (by omega)).trans g4, (q 5 (by omega)).trans g5, (q 6 (by omega)).trans g6, (q 7 (by omega)).trans g7, (q 8 (by omega)).trans g8⟩, ⟨fa, (q 9 (by omega)).trans h3, h4⟩, fun j hj => (q (10 + j) (by omega)).trans (h5 j hj)⟩
theorem xnS_iff {n : Nat} {x : Int32} : xnS n x = true ↔ (x < 0 ∨ nI n ≤ x) := by
  unfold xnS
  rw [Bool.or_eq_true, decide_eq_true_iff, decide_eq_true_iff]
theorem c_F_requireTwoSites {a b : Int32} (hF : xFc h n m e l cut lk hd K)
    (k1 : (xnS n a = true ∨ xnS n b = true) → Q (.inr h.length) (h ++ [.inr (5, [])], ks + 6, true)) (k2 : ¬ (xnS n a = true ∨ xnS n b = true) → a = b → Q (.inr h.length) (h ++ [.inr (4, [])], ks + 6, true)) (k0 : ¬ (xnS n a = true ∨ xnS n b = true) → ¬ a = b → Q (.inl none) (h, ks, true)) :
    xG xs LS (d + 5) 15 (0, xm_entry xP 15 [.ref 0, .int a, .int b], []) (h, ks, true) Q := by
  show xG xs LS (d + 5) 15 (0, [some (.ref 0), some (.int a), some (.int b)], []) (h, ks, true) Q
  obtain ⟨f0, ⟨on, bk, co, wy, fN⟩, ⟨fa, f9, fj⟩, fK⟩ := id hF
  obtain ⟨f1, f2, f3, f4, f5, f6, f7, f8⟩ := id fN
  have bad : (xnS n a = true ∨ xnS n b = true) → xG xs LS (d + 5) 15 (30, [some (.ref 0), some (.int a), some (.int b)], []) (h, ks, true) Q := by
    intro q
    refine xg_throw xa_F_requireTwoSites_30 (Nat.le_of_ble_eq_true rfl) (by decide +kernel) (by omega) ?_
    exact k1 q
  rw [xnS_iff, xnS_iff] at bad k0 k2
  refine xg_iload_n xa_F_requireTwoSites_0 rfl ?_
  refine xg_if_lt xa_F_requireTwoSites_1 (fun c => bad (Or.inl (Or.inl c))) (fun c1 => ?_)
  refine xg_iload_n xa_F_requireTwoSites_4 rfl ?_
  refine xg_aload_n xa_F_requireTwoSites_5 rfl ?_
  refine xg_getfield xa_F_requireTwoSites_6 (by assumption) rfl ?_
  refine xg_getfield xa_F_requireTwoSites_9 (by assumption) rfl ?_
  refine xg_icmp_ge xa_F_requireTwoSites_12 (fun c => bad (Or.inl (Or.inr c))) (fun c12 => ?_)
  refine xg_iload_n xa_F_requireTwoSites_15 rfl ?_
  refine xg_if_lt xa_F_requireTwoSites_16 (fun c => bad (Or.inr (Or.inl c))) (fun c16 => ?_)
  refine xg_iload_n xa_F_requireTwoSites_19 rfl ?_
  refine xg_aload_n xa_F_requireTwoSites_20 rfl ?_
  refine xg_getfield xa_F_requireTwoSites_21 (by assumption) rfl ?_
  refine xg_getfield xa_F_requireTwoSites_24 (by assumption) rfl ?_
  refine xg_icmp_lt xa_F_requireTwoSites_27 (fun c27 => ?_) (fun c => bad (Or.inr (Or.inr (Int32.not_lt.mp c))))
  have ok : ¬ ((a < 0 ∨ nI n ≤ a) ∨ (b < 0 ∨ nI n ≤ b)) := by
    rintro ((q | q) | (q | q))
    · exact c1 q
    · exact c12 q
    · exact c16 q
    · exact Int32.not_le.mpr c27 q
  refine xg_iload_n xa_F_requireTwoSites_38 rfl ?_
  refine xg_iload_n xa_F_requireTwoSites_39 rfl ?_
  refine xg_icmp_ne xa_F_requireTwoSites_40 (fun c => ?_) (fun c => ?_)
  · exact xg_return xa_F_requireTwoSites_51 (k0 ok c)
  · refine xg_throw xa_F_requireTwoSites_43 (Nat.le_of_ble_eq_true rfl) (by decide +kernel) (by omega) ?_
    exact k2 ok c
theorem c_F_requireFibre {x : Int32} (hF : xFc h n m e l cut lk hd K)
    (k1 : xnS m x = true → Q (.inr h.length) (h ++ [.inr (5, [])], ks + 6, true)) (k0 : xnS m x = false → Q (.inl none) (h, ks, true)) :
    xG xs LS (d + 5) 42 (0, xm_entry xP 42 [.ref 0, .int x], []) (h, ks, true) Q := by
  show xG xs LS (d + 5) 42 (0, [some (.ref 0), some (.int x)], []) (h, ks, true) Q
  obtain ⟨f0, ⟨on, bk, co, wy, fN⟩, ⟨fa, f9, fj⟩, fK⟩ := id hF
  obtain ⟨f1, f2, f3, f4, f5, f6, f7, f8⟩ := id fN
  rw [xnS_iff] at k1
  have bad : (x < 0 ∨ nI m ≤ x) → xG xs LS (d + 5) 42 (15, [some (.ref 0), some (.int x)], []) (h, ks, true) Q := by
    intro q
    refine xg_throw xa_F_requireFibre_15 (Nat.le_of_ble_eq_true rfl) (by decide +kernel) (by omega) ?_
    exact k1 q
  refine xg_iload_n xa_F_requireFibre_0 rfl ?_
  refine xg_if_lt xa_F_requireFibre_1 (fun c => bad (Or.inl c)) (fun c1 => ?_)
  refine xg_iload_n xa_F_requireFibre_4 rfl ?_
  refine xg_aload_n xa_F_requireFibre_5 rfl ?_
  refine xg_getfield xa_F_requireFibre_6 (by assumption) rfl ?_
  refine xg_getfield xa_F_requireFibre_9 (by assumption) rfl ?_
  refine xg_icmp_lt xa_F_requireFibre_12 (fun c12 => ?_) (fun c => bad (Or.inr (Int32.not_lt.mp c)))
  refine xg_return xa_F_requireFibre_23 (k0 ?_)
  unfold xnS
  rw [decide_eq_false c1, decide_eq_false (Int32.not_le.mpr c12)]
  rfl
theorem c_F_requireWavelength {x : Int32}
    (k1 : (x < 0 ∨ ¬ x ≤ 3) → Q (.inr h.length) (h ++ [.inr (5, [])], ks + 6, true)) (k0 : ¬ (x < 0 ∨ ¬ x ≤ 3) → Q (.inl none) (h, ks, true)) :
    xG xs LS (d + 5) 58 (0, xm_entry xP 58 [.int x], []) (h, ks, true) Q := by
  show xG xs LS (d + 5) 58 (0, [some (.int x)], []) (h, ks, true) Q
  have e34 : x < 4 ↔ x ≤ 3 := by
    rw [Int32.lt_iff_toInt_lt, Int32.le_iff_toInt_le, show (4 : Int32).toInt = 4 from by decide, show (3 : Int32).toInt = 3 from by decide]
    omega
  have bad : (x < 0 ∨ ¬ x ≤ 3) → xG xs LS (d + 5) 58 (9, [some (.int x)], []) (h, ks, true) Q := by
    intro q
    refine xg_throw xa_F_requireWavelength_9 (Nat.le_of_ble_eq_true rfl) (by decide +kernel) (by omega) ?_
    exact k1 q
  refine xg_iload_n xa_F_requireWavelength_0 rfl ?_
  refine xg_if_lt xa_F_requireWavelength_1 (fun c => bad (Or.inl c)) (fun c1 => ?_)
  refine xg_iload_n xa_F_requireWavelength_4 rfl ?_
  refine xg_iconst (v := 4) xa_F_requireWavelength_5 (by decide) ?_
  refine xg_icmp_lt xa_F_requireWavelength_6 (fun c6 => ?_) (fun c => bad (Or.inr (fun q => c (e34.mpr q))))
  exact xg_return xa_F_requireWavelength_17 (k0 (fun q => by
    rcases q with q | q
    · exact c1 q
    · exact q (e34.mp c6)))
theorem c_F_requireConnection {x : Int32} (hF : xFc h n m e l cut lk hd K)
    (k1 : xnC (fun c => (K c).1) x = true → Q (.inr h.length) (h ++ [.inr (5, [])], ks + 6, true)) (k0 : xnC (fun c => (K c).1) x = false → Q (.inl none) (h, ks, true)) :
    xG xs LS (d + 5) 39 (0, xm_entry xP 39 [.ref 0, .int x], []) (h, ks, true) Q := by
  show xG xs LS (d + 5) 39 (0, [some (.ref 0), some (.int x)], []) (h, ks, true) Q
  obtain ⟨f0, ⟨on, bk, co, wy, fN⟩, ⟨fa, f9, fj⟩, fK⟩ := id hF
  obtain ⟨f1, f2, f3, f4, f5, f6, f7, f8⟩ := id fN
  have e12 : 12 ≤ x ↔ 11 < x := by
    rw [Int32.lt_iff_toInt_lt, Int32.le_iff_toInt_le, show (12 : Int32).toInt = 12 from by decide, show (11 : Int32).toInt = 11 from by decide]
    omega
  unfold xnC at k1 k0
  have bad : (decide (x < 0) || decide (11 < x) || !(K x.toNatClampNeg).1) = true → xG xs LS (d + 5) 39 (22, [some (.ref 0), some (.int x)], []) (h, ks, true) Q := by
    intro q
    refine xg_throw xa_F_requireConnection_22 (Nat.le_of_ble_eq_true rfl) (by decide +kernel) (by omega) ?_
    exact k1 q
  refine xg_iload_n xa_F_requireConnection_0 rfl ?_
  refine xg_if_lt xa_F_requireConnection_1 (fun c => bad (by rw [decide_eq_true c]; rfl)) (fun c1 => ?_)
  refine xg_iload_n xa_F_requireConnection_4 rfl ?_
  refine xg_bipush (v := 12) xa_F_requireConnection_5 (by decide) ?_
  refine xg_icmp_ge xa_F_requireConnection_7 (fun c => bad (by rw [decide_eq_true (e12.mp c)]; simp)) (fun c7 => ?_)
  obtain ⟨j, hj, rfl⟩ := xi_12 c1 (fun q => c7 (e12.mpr q))
  rw [nI_clamp (by omega)] at bad k0
  have hfj := fj j hj
  have hcj := fK j hj
  refine xg_aload_n xa_F_requireConnection_10 rfl ?_
  refine xg_getfield xa_F_requireConnection_11 (by assumption) rfl ?_
  refine xg_iload_n xa_F_requireConnection_14 rfl ?_
  refine xg_aald_n xa_F_requireConnection_15 (by assumption) rfl (by assumption) (by decide) (by assumption) ?_
  refine xg_getfield xa_F_requireConnection_16 (by assumption) rfl ?_
  refine xg_if_ne xa_F_requireConnection_19 (fun c => ?_) (fun c => bad (by rw [(xz0 _).mp c]; simp))
  refine xg_return xa_F_requireConnection_30 (k0 ?_)
  show (decide (nI j < 0) || decide (11 < nI j) || !(K j).1) = false
  rw [decide_eq_false c1, decide_eq_false (fun q => c7 (e12.mpr q)), xz1 c]
  rfl
theorem c_F_leastNotThere (hF : xFc h n m e l cut lk hd K) (k : Q (.inl (some (.int (xo (xfst (fun c => !(K c).1) 12 0))))) (h, ks, fl)) : xG xs LS d 19 (0, xm_entry xP 19 [.ref 0], []) (h, ks, fl) Q := by
  show xG xs LS d 19 (0, [some (.ref 0), none], []) (h, ks, fl) Q
  obtain ⟨f0, ⟨on, bk, co, wy, fN⟩, ⟨fa, f9, fj⟩, fK⟩ := id hF
  obtain ⟨f1, f2, f3, f4, f5, f6, f7, f8⟩ := id fN
  have loop : ∀ j i, i + j = 12 → Q (.inl (some (.int (xo (xfst (fun c => !(K c).1) j i))))) (h, ks, fl) → xG xs LS d 19 (2, [some (.ref 0), some (.int (nI i))], []) (h, ks, fl) Q := by
    intro j
    induction j with
    | zero =>
      intro i hi k
      have ei : i = 12 := by omega
      subst ei
      refine xg_iload_n xa_F_leastNotThere_2 rfl ?_
      refine xg_bipush (v := 12) xa_F_leastNotThere_3 (by decide) ?_
      refine xg_icmp_ge xa_F_leastNotThere_5 (fun c5 => ?_) (fun c5 => absurd (by decide) c5)
      refine xg_iconst (v := (-1)) xa_F_leastNotThere_28 (by decide) ?_
      refine xg_ireturn xa_F_leastNotThere_29  ?_
      exact k
    | succ j ih =>
      intro i hi k
      have hi12 : i < 12 := by omega
      have hfi := fj i hi12
      have hci := fK i hi12
      unfold xfst at k
      refine xg_iload_n xa_F_leastNotThere_2 rfl ?_
      refine xg_bipush (v := 12) xa_F_leastNotThere_3 (by decide) ?_
      refine xg_icmp_ge xa_F_leastNotThere_5 (fun c => absurd c (show ¬ nI 12 ≤ nI i from nI_ge (by omega) (by omega))) (fun _ => ?_)
      refine xg_aload_n xa_F_leastNotThere_8 rfl ?_
      refine xg_getfield xa_F_leastNotThere_9 (by assumption) rfl ?_
      refine xg_iload_n xa_F_leastNotThere_12 rfl ?_
      refine xg_aald_n xa_F_leastNotThere_13 (by assumption) rfl (by assumption) (by decide) (by assumption) ?_
      refine xg_getfield xa_F_leastNotThere_14 (by assumption) rfl ?_
      refine xg_if_ne xa_F_leastNotThere_17 (fun c => ?_) (fun c => ?_)
      · rw [if_neg (by rw [xz1 c]; decide)] at k
        refine xg_iinc (L' := [_, _]) xa_F_leastNotThere_22 rfl (xi_inc _) rfl ?_
        refine xg_goto xa_F_leastNotThere_25 ?_
        exact ih (i + 1) (by omega) k
      · rw [if_pos (by rw [(xz0 _).mp c]; rfl)] at k
        refine xg_iload_n xa_F_leastNotThere_20 rfl ?_
        refine xg_ireturn xa_F_leastNotThere_21  ?_
        exact k
  refine xg_iconst (v := 0) xa_F_leastNotThere_0 (by decide) ?_
  refine xg_istore_n (L' := [_, _]) xa_F_leastNotThere_1 (Nat.le_of_ble_eq_true rfl) rfl ?_
  exact loop 12 0 (by omega) k
theorem c_F_connectionsThere (hF : xFc h n m e l cut lk hd K) (k : Q (.inl (some (.int (nI (xcnt (fun c => (K c).1) 12))))) (h, ks, fl)) : xG xs LS d 67 (0, xm_entry xP 67 [.ref 0], []) (h, ks, fl) Q := by
  show xG xs LS d 67 (0, [some (.ref 0), none, none], []) (h, ks, fl) Q
  obtain ⟨f0, ⟨on, bk, co, wy, fN⟩, ⟨fa, f9, fj⟩, fK⟩ := id hF
  obtain ⟨f1, f2, f3, f4, f5, f6, f7, f8⟩ := id fN
  have loop : ∀ j i, i + j = 12 → xG xs LS d 67 (4, [some (.ref 0), some (.int (nI (xcnt (fun c => (K c).1) i))), some (.int (nI i))], []) (h, ks, fl) Q := by
    intro j
    induction j with
    | zero =>
      intro i hi
      have ei : i = 12 := by omega
      subst ei
      refine xg_iload_n xa_F_connectionsThere_4 rfl ?_
      refine xg_bipush (v := 12) xa_F_connectionsThere_5 (by decide) ?_
      refine xg_icmp_ge xa_F_connectionsThere_7 (fun c7 => ?_) (fun c7 => absurd (by decide) c7)
      refine xg_iload_n xa_F_connectionsThere_31 rfl ?_
      refine xg_ireturn xa_F_connectionsThere_32  ?_
      exact k
    | succ j ih =>
      intro i hi
      have hi12 : i < 12 := by omega
      have hfi := fj i hi12
      have hci := fK i hi12
      have ex : xcnt (fun c => (K c).1) (i + 1) = if (K i).1 = true then xcnt (fun c => (K c).1) i + 1 else xcnt (fun c => (K c).1) i := rfl
      refine xg_iload_n xa_F_connectionsThere_4 rfl ?_
      refine xg_bipush (v := 12) xa_F_connectionsThere_5 (by decide) ?_
      refine xg_icmp_ge xa_F_connectionsThere_7 (fun c => absurd c (show ¬ nI 12 ≤ nI i from nI_ge (by omega) (by omega))) (fun _ => ?_)
      refine xg_aload_n xa_F_connectionsThere_10 rfl ?_
      refine xg_getfield xa_F_connectionsThere_11 (by assumption) rfl ?_
      refine xg_iload_n xa_F_connectionsThere_14 rfl ?_
      refine xg_aald_n xa_F_connectionsThere_15 (by assumption) rfl (by assumption) (by decide) (by assumption) ?_
      refine xg_getfield xa_F_connectionsThere_16 (by assumption) rfl ?_
      refine xg_if_eq xa_F_connectionsThere_19 (fun c => ?_) (fun c => ?_)
      · rw [if_neg (by rw [(xz0 _).mp c]; decide)] at ex
        refine xg_iinc (L' := [_, _, _]) xa_F_connectionsThere_25 rfl (xi_inc _) rfl ?_
        refine xg_goto xa_F_connectionsThere_28 ?_
        rw [← ex]
        exact ih (i + 1) (by omega)
      · rw [if_pos (xz1 c)] at ex
        refine xg_iinc (L' := [_, _, _]) xa_F_connectionsThere_22 rfl (xi_inc _) rfl ?_
        refine xg_iinc (L' := [_, _, _]) xa_F_connectionsThere_25 rfl (xi_inc _) rfl ?_
        refine xg_goto xa_F_connectionsThere_28 ?_
        rw [← ex]
        exact ih (i + 1) (by omega)
  refine xg_iconst (v := 0) xa_F_connectionsThere_0 (by decide) ?_
  refine xg_istore_n (L' := [_, _, _]) xa_F_connectionsThere_1 (Nat.le_of_ble_eq_true rfl) rfl ?_
  refine xg_iconst (v := 0) xa_F_connectionsThere_2 (by decide) ?_
  refine xg_istore_n (L' := [_, _, _]) xa_F_connectionsThere_3 (Nat.le_of_ble_eq_true rfl) rfl ?_
  exact loop 12 0 (by omega)
/-- what the connections hold on a wavelength -/
def xud (k : xcn) (w : Int32) : Int32 := if k.1 = true ∧ k.2.2.2.2.1 = w then k.2.2.2.2.2.1 ||| k.2.2.2.2.2.2.1 else 0
/-- the barred fibres, by the first connections -/
def xbrd (cut lk : Int32) (K : Nat → xcn) (w : Int32) : Nat → Int32
  | 0 => cut ||| lk
  | c + 1 => xbrd cut lk K w c ||| xud (K c) w
theorem c_F_freeOn {w : Int32} (hF : xFc h n m e l cut lk hd K) (k : Q (.inl (some (.int ((xbt m - 1) &&& (xbrd cut lk K w 12 ^^^ (-1)))))) (h, ks, fl)) : xG xs LS (d + 1) 22 (0, xm_entry xP 22 [.ref 0, .int w], []) (h, ks, fl) Q := by
  show xG xs LS (d + 1) 22 (0, [some (.ref 0), some (.int w), none, none], []) (h, ks, fl) Q
  obtain ⟨f0, ⟨on, bk, co, wy, fN⟩, ⟨fa, f9, fj⟩, fK⟩ := id hF
  obtain ⟨f1, f2, f3, f4, f5, f6, f7, f8⟩ := id fN
  have loop : ∀ j i, i + j = 12 → xG xs LS (d + 1) 22 (12, [some (.ref 0), some (.int w), some (.int (xbrd cut lk K w i)), some (.int (nI i))], []) (h, ks, fl) Q := by
    intro j
    induction j with
    | zero =>
      intro i hi
      have ei : i = 12 := by omega
      subst ei
      refine xg_iload_n xa_F_freeOn_12 rfl ?_
      refine xg_bipush (v := 12) xa_F_freeOn_13 (by decide) ?_
      refine xg_icmp_ge xa_F_freeOn_15 (fun _ => ?_) (fun c => absurd (by decide) c)
      refine xg_aload_n xa_F_freeOn_37 rfl ?_
      refine xg_getfield xa_F_freeOn_38 (by assumption) rfl ?_
      refine xg_callV1 xa_F_freeOn_41 ⟨Nat.le_of_ble_eq_true rfl, Nat.le_of_ble_eq_true rfl, rfl⟩ rfl rfl (by assumption) ?_
      refine c_N_everyFibre fN ?_
      refine xK1_c ?_
      refine xg_iload_n xa_F_freeOn_44 rfl ?_
      refine xg_iconst (v := (-1)) xa_F_freeOn_45 (by decide) ?_
      refine xg_ixor xa_F_freeOn_46 rfl ?_
      refine xg_iand xa_F_freeOn_47 rfl ?_
      refine xg_ireturn xa_F_freeOn_48  ?_
      exact k
    | succ j ih =>
      intro i hi
      have hi12 : i < 12 := by omega
      have hfi := fj i hi12
      have hci := fK i hi12
      refine xg_iload_n xa_F_freeOn_12 rfl ?_
      refine xg_bipush (v := 12) xa_F_freeOn_13 (by decide) ?_
      refine xg_icmp_ge xa_F_freeOn_15 (fun c => absurd c (show ¬ nI 12 ≤ nI i from nI_ge (by omega) (by omega))) (fun _ => ?_)
      refine xg_iload_n xa_F_freeOn_18 rfl ?_
      refine xg_aload_n xa_F_freeOn_19 rfl ?_
      refine xg_getfield xa_F_freeOn_20 (by assumption) rfl ?_
      refine xg_iload_n xa_F_freeOn_23 rfl ?_
      refine xg_aald_n xa_F_freeOn_24 (by assumption) rfl (by assumption) (by decide) (by assumption) ?_
      refine xg_iload_n xa_F_freeOn_25 rfl ?_
      refine xg_callV1 xa_F_freeOn_26 ⟨Nat.le_of_ble_eq_true rfl, Nat.le_of_ble_eq_true rfl, rfl⟩ rfl rfl (by assumption) ?_
      refine c_C_usedOn hci ?_
      refine xK1_c ?_
      refine xg_ior xa_F_freeOn_29 rfl ?_
      refine xg_istore_n (L' := [_, _, _, _]) xa_F_freeOn_30 (Nat.le_of_ble_eq_true rfl) rfl ?_
      refine xg_iinc (L' := [_, _, _, _]) xa_F_freeOn_31 rfl (xi_inc _) rfl ?_
      refine xg_goto xa_F_freeOn_34 ?_
      exact ih (i + 1) (by omega)
  refine xg_aload_n xa_F_freeOn_0 rfl ?_
  refine xg_getfield xa_F_freeOn_1 (by assumption) rfl ?_
  refine xg_aload_n xa_F_freeOn_4 rfl ?_
  refine xg_getfield xa_F_freeOn_5 (by assumption) rfl ?_
  refine xg_ior xa_F_freeOn_8 rfl ?_
  refine xg_istore_n (L' := [_, _, _, _]) xa_F_freeOn_9 (Nat.le_of_ble_eq_true rfl) rfl ?_
  refine xg_iconst (v := 0) xa_F_freeOn_10 (by decide) ?_
  refine xg_istore_n (L' := [_, _, _, _]) xa_F_freeOn_11 (Nat.le_of_ble_eq_true rfl) rfl ?_
  exact loop 12 0 (by omega)
/-- a connection behind a change of the fibres -/
def xcoK (cut hd : Int32) (k : xcn) : xcn := if k.1 = true then (k.1, k.2.1, k.2.2.1, k.2.2.2.1, k.2.2.2.2.1, k.2.2.2.2.2.1, k.2.2.2.2.2.2.1, (xco k.2.1 k.2.2.2.2.2.1 k.2.2.2.2.2.2.1 k.2.2.2.2.2.2.2.1 k.2.2.2.2.2.2.2.2 cut hd).1, (xco k.2.1 k.2.2.2.2.2.1 k.2.2.2.2.2.2.1 k.2.2.2.2.2.2.2.1 k.2.2.2.2.2.2.2.2 cut hd).2) else k
/-- the first ones changed -/
def xmp (F : xcn → xcn) (K : Nat → xcn) (n : Nat) : Nat → xcn := fun c => if c < n then F (K c) else K c
theorem xmp_0 (F : xcn → xcn) (K : Nat → xcn) : xmp F K 0 = K := by
  funext c
  exact if_neg (by omega)
theorem xmp_s (F : xcn → xcn) (K : Nat → xcn) (n : Nat) : xup (xmp F K n) n (F (K n)) = xmp F K (n + 1) := by
  funext c
  unfold xup xmp
  by_cases z : c = n
  · rw [if_pos z, if_pos (by omega), z]
  · rw [if_neg z]
    show (if c < n then F (K c) else K c) = if c < n + 1 then F (K c) else K c
    by_cases y : c < n
    · rw [if_pos y, if_pos (by omega)]
    · rw [if_neg y, if_neg (by omega)]
theorem xmp_at (F : xcn → xcn) (K : Nat → xcn) (n : Nat) : xmp F K n n = K n := if_neg (by omega)
theorem xmp_n {F : xcn → xcn} {K : Nat → xcn} {n : Nat} (h : F (K n) = K n) : xmp F K (n + 1) = xmp F K n := by
  rw [← xmp_s, h]
  funext c
  unfold xup
  by_cases z : c = n
  · rw [if_pos z, z, xmp_at]
  · rw [if_neg z]
theorem c_F_changeOverAll (hF : xFc h n m e l cut lk hd K) (k : ∀ h' fl', xFc h' n m e l cut lk hd (xmp (xcoK cut hd) K 12) → xS h h' 0 22 → Q (.inl none) (h', ks, fl')) : xG xs LS (d + 2) 6 (0, xm_entry xP 6 [.ref 0], []) (h, ks, fl) Q := by
  show xG xs LS (d + 2) 6 (0, [some (.ref 0), none], []) (h, ks, fl) Q
  have loop : ∀ j i h1 fl', i + j = 12 → xFc h1 n m e l cut lk hd (xmp (xcoK cut hd) K i) → xS h h1 0 22 → xG xs LS (d + 2) 6 (2, [some (.ref 0), some (.int (nI i))], []) (h1, ks, fl') Q := by
    intro j
    induction j with
    | zero =>
      intro i h1 fl' hi hF hS
      have ei : i = 12 := by omega
      subst ei
      refine xg_iload_n xa_F_changeOverAll_2 rfl ?_
      refine xg_bipush (v := 12) xa_F_changeOverAll_3 (by decide) ?_
      refine xg_icmp_ge xa_F_changeOverAll_5 (fun c5 => ?_) (fun c5 => absurd (by decide) c5)
      refine xg_return xa_F_changeOverAll_43 ?_
      exact k _ _ hF hS
    | succ j ih =>
      intro i h1 fl' hi hF hS
      have hi12 : i < 12 := by omega
      obtain ⟨f0, ⟨on, bk, co, wy, fN⟩, ⟨fa, f9, fj⟩, fK⟩ := id hF
      obtain ⟨f1, f2, f3, f4, f5, f6, f7, f8⟩ := id fN
      have hfi := fj i hi12
      have hci := fK i hi12
      rw [xmp_at] at hci
      refine xg_iload_n xa_F_changeOverAll_2 rfl ?_
      refine xg_bipush (v := 12) xa_F_changeOverAll_3 (by decide) ?_
      refine xg_icmp_ge xa_F_changeOverAll_5 (fun c => absurd c (show ¬ nI 12 ≤ nI i from nI_ge (by omega) (by omega))) (fun _ => ?_)
      refine xg_aload_n xa_F_changeOverAll_8 rfl ?_
      refine xg_getfield xa_F_changeOverAll_9 (by assumption) rfl ?_
      refine xg_iload_n xa_F_changeOverAll_12 rfl ?_
      refine xg_aald_n xa_F_changeOverAll_13 (by assumption) rfl (by assumption) (by decide) (by assumption) ?_
      refine xg_getfield xa_F_changeOverAll_14 (by assumption) rfl ?_
      refine xg_if_eq xa_F_changeOverAll_17 (fun c => ?_) (fun c => ?_)
      · have hx : xcoK cut hd (K i) = K i := if_neg (by rw [(xz0 _).mp c]; decide)
        rw [← xmp_n hx] at hF
        refine xg_iinc (L' := [_, _]) xa_F_changeOverAll_37 rfl (xi_inc _) rfl ?_
        refine xg_goto xa_F_changeOverAll_40 ?_
        exact ih (i + 1) h1 _ (by omega) hF hS
      · have hx : xcoK cut hd (K i) = ((K i).1, (K i).2.1, (K i).2.2.1, (K i).2.2.2.1, (K i).2.2.2.2.1, (K i).2.2.2.2.2.1, (K i).2.2.2.2.2.2.1, (xco (K i).2.1 (K i).2.2.2.2.2.1 (K i).2.2.2.2.2.2.1 (K i).2.2.2.2.2.2.2.1 (K i).2.2.2.2.2.2.2.2 cut hd).1, (xco (K i).2.1 (K i).2.2.2.2.2.1 (K i).2.2.2.2.2.2.1 (K i).2.2.2.2.2.2.2.1 (K i).2.2.2.2.2.2.2.2 cut hd).2) := if_pos (xz1 c)
        refine xg_aload_n xa_F_changeOverAll_20 rfl ?_
        refine xg_getfield xa_F_changeOverAll_21 (by assumption) rfl ?_
        refine xg_iload_n xa_F_changeOverAll_24 rfl ?_
        refine xg_aald_n xa_F_changeOverAll_25 (by assumption) rfl (by assumption) (by decide) (by assumption) ?_
        refine xg_aload_n xa_F_changeOverAll_26 rfl ?_
        refine xg_getfield xa_F_changeOverAll_27 (by assumption) rfl ?_
        refine xg_aload_n xa_F_changeOverAll_30 rfl ?_
        refine xg_getfield xa_F_changeOverAll_31 (by assumption) rfl ?_
        refine xg_callV0 xa_F_changeOverAll_34 ⟨Nat.le_of_ble_eq_true rfl, Nat.le_of_ble_eq_true rfl, rfl⟩ rfl rfl (by assumption) ?_
        refine c_C_changeOver hci (fun h2 f2 u => xK0_d ?_)
        have hF2 := xFc_con (k := xcoK cut hd (K i)) hF hi12 (by rw [hx]; exact u)
        rw [xmp_s] at hF2
        refine xg_iinc (L' := [_, _]) xa_F_changeOverAll_37 rfl (xi_inc _) rfl ?_
        refine xg_goto xa_F_changeOverAll_40 ?_
        exact ih (i + 1) h2 _ (by omega) hF2 (hS.tr (u.toS (by omega) (by omega)))
  refine xg_iconst (v := 0) xa_F_changeOverAll_0 (by decide) ?_
  refine xg_istore_n (L' := [_, _]) xa_F_changeOverAll_1 (Nat.le_of_ble_eq_true rfl) rfl ?_
  exact loop 12 0 h _ (by omega) (by rw [xmp_0]; exact hF) xS.rf
end XF
