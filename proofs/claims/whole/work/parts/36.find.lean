/-! 36.find: the model's findPath and findPair. -/
theorem xa_M_findPath_0 : xm_at xP 84 0 = some (0, .aload_n 0, 0, 0, 0, 0) := by decide +kernel
theorem xa_M_findPath_1 : xm_at xP 84 1 = some (1, .iload_n 1, 0, 0, 0, 0) := by decide +kernel
theorem xa_M_findPath_2 : xm_at xP 84 2 = some (2, .iload_n 2, 0, 0, 0, 0) := by decide +kernel
theorem xa_M_findPath_3 : xm_at xP 84 3 = some (3, .iload_n 3, 0, 0, 0, 0) := by decide +kernel
theorem xa_M_findPath_4 : xm_at xP 84 4 = some (4, .invokevirtual 97, 80, 4, 3, 0) := by decide +kernel
theorem xa_M_findPath_7 : xm_at xP 84 7 = some (7, .iconst (-1), 0, 0, 0, 0) := by decide +kernel
theorem xa_M_findPath_8 : xm_at xP 84 8 = some (8, .istore 4, 0, 0, 0, 0) := by decide +kernel
theorem xa_M_findPath_10 : xm_at xP 84 10 = some (10, .iconst 0, 0, 0, 0, 0) := by decide +kernel
theorem xa_M_findPath_11 : xm_at xP 84 11 = some (11, .istore 5, 0, 0, 0, 0) := by decide +kernel
theorem xa_M_findPath_13 : xm_at xP 84 13 = some (13, .iload 5, 0, 0, 0, 0) := by decide +kernel
theorem xa_M_findPath_15 : xm_at xP 84 15 = some (15, .aload_n 0, 0, 0, 0, 0) := by decide +kernel
theorem xa_M_findPath_16 : xm_at xP 84 16 = some (16, .getfield 86, 3, 17, 0, 0) := by decide +kernel
theorem xa_M_findPath_19 : xm_at xP 84 19 = some (19, .if_icmp .ge 72, 91, 0, 0, 0) := by decide +kernel
theorem xa_M_findPath_22 : xm_at xP 84 22 = some (22, .iload 4, 0, 0, 0, 0) := by decide +kernel
theorem xa_M_findPath_24 : xm_at xP 84 24 = some (24, .ifCond .lt 57, 81, 0, 0, 0) := by decide +kernel
theorem xa_M_findPath_27 : xm_at xP 84 27 = some (27, .aload_n 0, 0, 0, 0, 0) := by decide +kernel
theorem xa_M_findPath_28 : xm_at xP 84 28 = some (28, .getfield 57, 3, 19, 0, 0) := by decide +kernel
theorem xa_M_findPath_31 : xm_at xP 84 31 = some (31, .iload 5, 0, 0, 0, 0) := by decide +kernel
theorem xa_M_findPath_33 : xm_at xP 84 33 = some (33, .iaload, 0, 0, 0, 0) := by decide +kernel
theorem xa_M_findPath_34 : xm_at xP 84 34 = some (34, .aload_n 0, 0, 0, 0, 0) := by decide +kernel
theorem xa_M_findPath_35 : xm_at xP 84 35 = some (35, .getfield 57, 3, 19, 0, 0) := by decide +kernel
theorem xa_M_findPath_38 : xm_at xP 84 38 = some (38, .iload 4, 0, 0, 0, 0) := by decide +kernel
theorem xa_M_findPath_40 : xm_at xP 84 40 = some (40, .iaload, 0, 0, 0, 0) := by decide +kernel
theorem xa_M_findPath_41 : xm_at xP 84 41 = some (41, .if_icmp .lt 40, 81, 0, 0, 0) := by decide +kernel
theorem xa_M_findPath_44 : xm_at xP 84 44 = some (44, .aload_n 0, 0, 0, 0, 0) := by decide +kernel
theorem xa_M_findPath_45 : xm_at xP 84 45 = some (45, .getfield 57, 3, 19, 0, 0) := by decide +kernel
theorem xa_M_findPath_48 : xm_at xP 84 48 = some (48, .iload 5, 0, 0, 0, 0) := by decide +kernel
theorem xa_M_findPath_50 : xm_at xP 84 50 = some (50, .iaload, 0, 0, 0, 0) := by decide +kernel
theorem xa_M_findPath_51 : xm_at xP 84 51 = some (51, .aload_n 0, 0, 0, 0, 0) := by decide +kernel
theorem xa_M_findPath_52 : xm_at xP 84 52 = some (52, .getfield 57, 3, 19, 0, 0) := by decide +kernel
theorem xa_M_findPath_55 : xm_at xP 84 55 = some (55, .iload 4, 0, 0, 0, 0) := by decide +kernel
theorem xa_M_findPath_57 : xm_at xP 84 57 = some (57, .iaload, 0, 0, 0, 0) := by decide +kernel
theorem xa_M_findPath_58 : xm_at xP 84 58 = some (58, .if_icmp .ne 27, 85, 0, 0, 0) := by decide +kernel
theorem xa_M_findPath_61 : xm_at xP 84 61 = some (61, .aload_n 0, 0, 0, 0, 0) := by decide +kernel
theorem xa_M_findPath_62 : xm_at xP 84 62 = some (62, .getfield 54, 3, 18, 0, 0) := by decide +kernel
theorem xa_M_findPath_65 : xm_at xP 84 65 = some (65, .iload 5, 0, 0, 0, 0) := by decide +kernel
theorem xa_M_findPath_67 : xm_at xP 84 67 = some (67, .iaload, 0, 0, 0, 0) := by decide +kernel
theorem xa_M_findPath_68 : xm_at xP 84 68 = some (68, .aload_n 0, 0, 0, 0, 0) := by decide +kernel
theorem xa_M_findPath_69 : xm_at xP 84 69 = some (69, .getfield 54, 3, 18, 0, 0) := by decide +kernel
theorem xa_M_findPath_72 : xm_at xP 84 72 = some (72, .iload 4, 0, 0, 0, 0) := by decide +kernel
theorem xa_M_findPath_74 : xm_at xP 84 74 = some (74, .iaload, 0, 0, 0, 0) := by decide +kernel
theorem xa_M_findPath_75 : xm_at xP 84 75 = some (75, .invokestatic 101, 83, 2, 0, 0) := by decide +kernel
theorem xa_M_findPath_78 : xm_at xP 84 78 = some (78, .ifCond .eq 7, 85, 0, 0, 0) := by decide +kernel
theorem xa_M_findPath_81 : xm_at xP 84 81 = some (81, .iload 5, 0, 0, 0, 0) := by decide +kernel
theorem xa_M_findPath_83 : xm_at xP 84 83 = some (83, .istore 4, 0, 0, 0, 0) := by decide +kernel
theorem xa_M_findPath_85 : xm_at xP 84 85 = some (85, .iinc 5 1, 0, 0, 0, 0) := by decide +kernel
theorem xa_M_findPath_88 : xm_at xP 84 88 = some (88, .goto (-75), 13, 0, 0, 0) := by decide +kernel
theorem xa_M_findPath_91 : xm_at xP 84 91 = some (91, .iload 4, 0, 0, 0, 0) := by decide +kernel
theorem xa_M_findPath_93 : xm_at xP 84 93 = some (93, .ifCond .ge 5, 98, 0, 0, 0) := by decide +kernel
theorem xa_M_findPath_96 : xm_at xP 84 96 = some (96, .iconst 0, 0, 0, 0, 0) := by decide +kernel
theorem xa_M_findPath_97 : xm_at xP 84 97 = some (97, .ireturn, 0, 0, 0, 1) := by decide +kernel
theorem xa_M_findPath_98 : xm_at xP 84 98 = some (98, .aload_n 0, 0, 0, 0, 0) := by decide +kernel
theorem xa_M_findPath_99 : xm_at xP 84 99 = some (99, .aload_n 0, 0, 0, 0, 0) := by decide +kernel
theorem xa_M_findPath_100 : xm_at xP 84 100 = some (100, .getfield 54, 3, 18, 0, 0) := by decide +kernel
theorem xa_M_findPath_103 : xm_at xP 84 103 = some (103, .iload 4, 0, 0, 0, 0) := by decide +kernel
theorem xa_M_findPath_105 : xm_at xP 84 105 = some (105, .iaload, 0, 0, 0, 0) := by decide +kernel
theorem xa_M_findPath_106 : xm_at xP 84 106 = some (106, .putfield 105, 3, 22, 0, 0) := by decide +kernel
theorem xa_M_findPath_109 : xm_at xP 84 109 = some (109, .aload_n 0, 0, 0, 0, 0) := by decide +kernel
theorem xa_M_findPath_110 : xm_at xP 84 110 = some (110, .iconst 0, 0, 0, 0, 0) := by decide +kernel
theorem xa_M_findPath_111 : xm_at xP 84 111 = some (111, .putfield 108, 3, 23, 0, 0) := by decide +kernel
theorem xa_M_findPath_114 : xm_at xP 84 114 = some (114, .iconst 1, 0, 0, 0, 0) := by decide +kernel
theorem xa_M_findPath_115 : xm_at xP 84 115 = some (115, .ireturn, 0, 0, 0, 1) := by decide +kernel
theorem xa_M_findPair_0 : xm_at xP 79 0 = some (0, .aload_n 0, 0, 0, 0, 0) := by decide +kernel
theorem xa_M_findPair_1 : xm_at xP 79 1 = some (1, .iload_n 1, 0, 0, 0, 0) := by decide +kernel
theorem xa_M_findPair_2 : xm_at xP 79 2 = some (2, .iload_n 2, 0, 0, 0, 0) := by decide +kernel
theorem xa_M_findPair_3 : xm_at xP 79 3 = some (3, .iload_n 3, 0, 0, 0, 0) := by decide +kernel
theorem xa_M_findPair_4 : xm_at xP 79 4 = some (4, .invokevirtual 97, 80, 4, 3, 0) := by decide +kernel
theorem xa_M_findPair_7 : xm_at xP 79 7 = some (7, .iconst 0, 0, 0, 0, 0) := by decide +kernel
theorem xa_M_findPair_8 : xm_at xP 79 8 = some (8, .istore 4, 0, 0, 0, 0) := by decide +kernel
theorem xa_M_findPair_10 : xm_at xP 79 10 = some (10, .ldc 111, 100000, 0, 0, 0) := by decide +kernel
theorem xa_M_findPair_12 : xm_at xP 79 12 = some (12, .istore 5, 0, 0, 0, 0) := by decide +kernel
theorem xa_M_findPair_14 : xm_at xP 79 14 = some (14, .iconst 0, 0, 0, 0, 0) := by decide +kernel
theorem xa_M_findPair_15 : xm_at xP 79 15 = some (15, .istore 6, 0, 0, 0, 0) := by decide +kernel
theorem xa_M_findPair_17 : xm_at xP 79 17 = some (17, .iload 6, 0, 0, 0, 0) := by decide +kernel
theorem xa_M_findPair_19 : xm_at xP 79 19 = some (19, .aload_n 0, 0, 0, 0, 0) := by decide +kernel
theorem xa_M_findPair_20 : xm_at xP 79 20 = some (20, .getfield 86, 3, 17, 0, 0) := by decide +kernel
theorem xa_M_findPair_23 : xm_at xP 79 23 = some (23, .if_icmp .ge 118, 141, 0, 0, 0) := by decide +kernel
theorem xa_M_findPair_26 : xm_at xP 79 26 = some (26, .iconst 0, 0, 0, 0, 0) := by decide +kernel
theorem xa_M_findPair_27 : xm_at xP 79 27 = some (27, .istore 7, 0, 0, 0, 0) := by decide +kernel
theorem xa_M_findPair_29 : xm_at xP 79 29 = some (29, .iload 7, 0, 0, 0, 0) := by decide +kernel
theorem xa_M_findPair_31 : xm_at xP 79 31 = some (31, .iload 6, 0, 0, 0, 0) := by decide +kernel
theorem xa_M_findPair_33 : xm_at xP 79 33 = some (33, .if_icmp .ge 102, 135, 0, 0, 0) := by decide +kernel
theorem xa_M_findPair_36 : xm_at xP 79 36 = some (36, .aload_n 0, 0, 0, 0, 0) := by decide +kernel
theorem xa_M_findPair_37 : xm_at xP 79 37 = some (37, .getfield 57, 3, 19, 0, 0) := by decide +kernel
theorem xa_M_findPair_40 : xm_at xP 79 40 = some (40, .iload 6, 0, 0, 0, 0) := by decide +kernel
theorem xa_M_findPair_42 : xm_at xP 79 42 = some (42, .iaload, 0, 0, 0, 0) := by decide +kernel
theorem xa_M_findPair_43 : xm_at xP 79 43 = some (43, .aload_n 0, 0, 0, 0, 0) := by decide +kernel
theorem xa_M_findPair_44 : xm_at xP 79 44 = some (44, .getfield 57, 3, 19, 0, 0) := by decide +kernel
theorem xa_M_findPair_47 : xm_at xP 79 47 = some (47, .iload 7, 0, 0, 0, 0) := by decide +kernel
theorem xa_M_findPair_49 : xm_at xP 79 49 = some (49, .iaload, 0, 0, 0, 0) := by decide +kernel
theorem xa_M_findPair_50 : xm_at xP 79 50 = some (50, .iadd, 0, 0, 0, 0) := by decide +kernel
theorem xa_M_findPair_51 : xm_at xP 79 51 = some (51, .istore 8, 0, 0, 0, 0) := by decide +kernel
theorem xa_M_findPair_53 : xm_at xP 79 53 = some (53, .aload_n 0, 0, 0, 0, 0) := by decide +kernel
theorem xa_M_findPair_54 : xm_at xP 79 54 = some (54, .getfield 54, 3, 18, 0, 0) := by decide +kernel
theorem xa_M_findPair_57 : xm_at xP 79 57 = some (57, .iload 6, 0, 0, 0, 0) := by decide +kernel
theorem xa_M_findPair_59 : xm_at xP 79 59 = some (59, .iaload, 0, 0, 0, 0) := by decide +kernel
theorem xa_M_findPair_60 : xm_at xP 79 60 = some (60, .aload_n 0, 0, 0, 0, 0) := by decide +kernel
theorem xa_M_findPair_61 : xm_at xP 79 61 = some (61, .getfield 54, 3, 18, 0, 0) := by decide +kernel
theorem xa_M_findPair_64 : xm_at xP 79 64 = some (64, .iload 7, 0, 0, 0, 0) := by decide +kernel
theorem xa_M_findPair_66 : xm_at xP 79 66 = some (66, .iaload, 0, 0, 0, 0) := by decide +kernel
theorem xa_M_findPair_67 : xm_at xP 79 67 = some (67, .iand, 0, 0, 0, 0) := by decide +kernel
theorem xa_M_findPair_68 : xm_at xP 79 68 = some (68, .ifCond .ne 61, 129, 0, 0, 0) := by decide +kernel
theorem xa_M_findPair_71 : xm_at xP 79 71 = some (71, .iload 8, 0, 0, 0, 0) := by decide +kernel
theorem xa_M_findPair_73 : xm_at xP 79 73 = some (73, .iload 5, 0, 0, 0, 0) := by decide +kernel
theorem xa_M_findPair_75 : xm_at xP 79 75 = some (75, .if_icmp .lt 33, 108, 0, 0, 0) := by decide +kernel
theorem xa_M_findPair_78 : xm_at xP 79 78 = some (78, .iload 8, 0, 0, 0, 0) := by decide +kernel
theorem xa_M_findPair_80 : xm_at xP 79 80 = some (80, .iload 5, 0, 0, 0, 0) := by decide +kernel
theorem xa_M_findPair_82 : xm_at xP 79 82 = some (82, .if_icmp .ne 47, 129, 0, 0, 0) := by decide +kernel
theorem xa_M_findPair_85 : xm_at xP 79 85 = some (85, .aload_n 0, 0, 0, 0, 0) := by decide +kernel
theorem xa_M_findPair_86 : xm_at xP 79 86 = some (86, .getfield 54, 3, 18, 0, 0) := by decide +kernel
theorem xa_M_findPair_89 : xm_at xP 79 89 = some (89, .iload 6, 0, 0, 0, 0) := by decide +kernel
theorem xa_M_findPair_91 : xm_at xP 79 91 = some (91, .iaload, 0, 0, 0, 0) := by decide +kernel
theorem xa_M_findPair_92 : xm_at xP 79 92 = some (92, .aload_n 0, 0, 0, 0, 0) := by decide +kernel
theorem xa_M_findPair_93 : xm_at xP 79 93 = some (93, .getfield 54, 3, 18, 0, 0) := by decide +kernel
theorem xa_M_findPair_96 : xm_at xP 79 96 = some (96, .iload 7, 0, 0, 0, 0) := by decide +kernel
theorem xa_M_findPair_98 : xm_at xP 79 98 = some (98, .iaload, 0, 0, 0, 0) := by decide +kernel
theorem xa_M_findPair_99 : xm_at xP 79 99 = some (99, .ior, 0, 0, 0, 0) := by decide +kernel
theorem xa_M_findPair_100 : xm_at xP 79 100 = some (100, .iload 4, 0, 0, 0, 0) := by decide +kernel
theorem xa_M_findPair_102 : xm_at xP 79 102 = some (102, .invokestatic 101, 83, 2, 0, 0) := by decide +kernel
theorem xa_M_findPair_105 : xm_at xP 79 105 = some (105, .ifCond .eq 24, 129, 0, 0, 0) := by decide +kernel
theorem xa_M_findPair_108 : xm_at xP 79 108 = some (108, .iload 8, 0, 0, 0, 0) := by decide +kernel
theorem xa_M_findPair_110 : xm_at xP 79 110 = some (110, .istore 5, 0, 0, 0, 0) := by decide +kernel
theorem xa_M_findPair_112 : xm_at xP 79 112 = some (112, .aload_n 0, 0, 0, 0, 0) := by decide +kernel
theorem xa_M_findPair_113 : xm_at xP 79 113 = some (113, .getfield 54, 3, 18, 0, 0) := by decide +kernel
theorem xa_M_findPair_116 : xm_at xP 79 116 = some (116, .iload 6, 0, 0, 0, 0) := by decide +kernel
theorem xa_M_findPair_118 : xm_at xP 79 118 = some (118, .iaload, 0, 0, 0, 0) := by decide +kernel
theorem xa_M_findPair_119 : xm_at xP 79 119 = some (119, .aload_n 0, 0, 0, 0, 0) := by decide +kernel
theorem xa_M_findPair_120 : xm_at xP 79 120 = some (120, .getfield 54, 3, 18, 0, 0) := by decide +kernel
theorem xa_M_findPair_123 : xm_at xP 79 123 = some (123, .iload 7, 0, 0, 0, 0) := by decide +kernel
theorem xa_M_findPair_125 : xm_at xP 79 125 = some (125, .iaload, 0, 0, 0, 0) := by decide +kernel
theorem xa_M_findPair_126 : xm_at xP 79 126 = some (126, .ior, 0, 0, 0, 0) := by decide +kernel
theorem xa_M_findPair_127 : xm_at xP 79 127 = some (127, .istore 4, 0, 0, 0, 0) := by decide +kernel
theorem xa_M_findPair_129 : xm_at xP 79 129 = some (129, .iinc 7 1, 0, 0, 0, 0) := by decide +kernel
theorem xa_M_findPair_132 : xm_at xP 79 132 = some (132, .goto (-103), 29, 0, 0, 0) := by decide +kernel
theorem xa_M_findPair_135 : xm_at xP 79 135 = some (135, .iinc 6 1, 0, 0, 0, 0) := by decide +kernel
theorem xa_M_findPair_138 : xm_at xP 79 138 = some (138, .goto (-121), 17, 0, 0, 0) := by decide +kernel
theorem xa_M_findPair_141 : xm_at xP 79 141 = some (141, .iload 4, 0, 0, 0, 0) := by decide +kernel
theorem xa_M_findPair_143 : xm_at xP 79 143 = some (143, .ifCond .ne 5, 148, 0, 0, 0) := by decide +kernel
theorem xa_M_findPair_146 : xm_at xP 79 146 = some (146, .iconst 0, 0, 0, 0, 0) := by decide +kernel
theorem xa_M_findPair_147 : xm_at xP 79 147 = some (147, .ireturn, 0, 0, 0, 1) := by decide +kernel
theorem xa_M_findPair_148 : xm_at xP 79 148 = some (148, .iconst (-1), 0, 0, 0, 0) := by decide +kernel
theorem xa_M_findPair_149 : xm_at xP 79 149 = some (149, .istore 6, 0, 0, 0, 0) := by decide +kernel
theorem xa_M_findPair_151 : xm_at xP 79 151 = some (151, .iconst 0, 0, 0, 0, 0) := by decide +kernel
theorem xa_M_findPair_152 : xm_at xP 79 152 = some (152, .istore 7, 0, 0, 0, 0) := by decide +kernel
theorem xa_M_findPair_154 : xm_at xP 79 154 = some (154, .iload 7, 0, 0, 0, 0) := by decide +kernel
theorem xa_M_findPair_156 : xm_at xP 79 156 = some (156, .aload_n 0, 0, 0, 0, 0) := by decide +kernel
theorem xa_M_findPair_157 : xm_at xP 79 157 = some (157, .getfield 86, 3, 17, 0, 0) := by decide +kernel
theorem xa_M_findPair_160 : xm_at xP 79 160 = some (160, .if_icmp .ge 213, 373, 0, 0, 0) := by decide +kernel
theorem xa_M_findPair_163 : xm_at xP 79 163 = some (163, .iconst 0, 0, 0, 0, 0) := by decide +kernel
theorem xa_M_findPair_164 : xm_at xP 79 164 = some (164, .istore 8, 0, 0, 0, 0) := by decide +kernel
theorem xa_M_findPair_166 : xm_at xP 79 166 = some (166, .iload 8, 0, 0, 0, 0) := by decide +kernel
theorem xa_M_findPair_168 : xm_at xP 79 168 = some (168, .aload_n 0, 0, 0, 0, 0) := by decide +kernel
theorem xa_M_findPair_169 : xm_at xP 79 169 = some (169, .getfield 86, 3, 17, 0, 0) := by decide +kernel
theorem xa_M_findPair_172 : xm_at xP 79 172 = some (172, .if_icmp .ge 195, 367, 0, 0, 0) := by decide +kernel
theorem xa_M_findPair_175 : xm_at xP 79 175 = some (175, .iload 7, 0, 0, 0, 0) := by decide +kernel
theorem xa_M_findPair_177 : xm_at xP 79 177 = some (177, .iload 8, 0, 0, 0, 0) := by decide +kernel
theorem xa_M_findPair_179 : xm_at xP 79 179 = some (179, .if_icmp .eq 45, 224, 0, 0, 0) := by decide +kernel
theorem xa_M_findPair_182 : xm_at xP 79 182 = some (182, .aload_n 0, 0, 0, 0, 0) := by decide +kernel
theorem xa_M_findPair_183 : xm_at xP 79 183 = some (183, .getfield 54, 3, 18, 0, 0) := by decide +kernel
theorem xa_M_findPair_186 : xm_at xP 79 186 = some (186, .iload 7, 0, 0, 0, 0) := by decide +kernel
theorem xa_M_findPair_188 : xm_at xP 79 188 = some (188, .iaload, 0, 0, 0, 0) := by decide +kernel
theorem xa_M_findPair_189 : xm_at xP 79 189 = some (189, .aload_n 0, 0, 0, 0, 0) := by decide +kernel
theorem xa_M_findPair_190 : xm_at xP 79 190 = some (190, .getfield 54, 3, 18, 0, 0) := by decide +kernel
theorem xa_M_findPair_193 : xm_at xP 79 193 = some (193, .iload 8, 0, 0, 0, 0) := by decide +kernel
theorem xa_M_findPair_195 : xm_at xP 79 195 = some (195, .iaload, 0, 0, 0, 0) := by decide +kernel
theorem xa_M_findPair_196 : xm_at xP 79 196 = some (196, .iand, 0, 0, 0, 0) := by decide +kernel
theorem xa_M_findPair_197 : xm_at xP 79 197 = some (197, .ifCond .ne 27, 224, 0, 0, 0) := by decide +kernel
theorem xa_M_findPair_200 : xm_at xP 79 200 = some (200, .aload_n 0, 0, 0, 0, 0) := by decide +kernel
theorem xa_M_findPair_201 : xm_at xP 79 201 = some (201, .getfield 54, 3, 18, 0, 0) := by decide +kernel
theorem xa_M_findPair_204 : xm_at xP 79 204 = some (204, .iload 7, 0, 0, 0, 0) := by decide +kernel
theorem xa_M_findPair_206 : xm_at xP 79 206 = some (206, .iaload, 0, 0, 0, 0) := by decide +kernel
theorem xa_M_findPair_207 : xm_at xP 79 207 = some (207, .aload_n 0, 0, 0, 0, 0) := by decide +kernel
theorem xa_M_findPair_208 : xm_at xP 79 208 = some (208, .getfield 54, 3, 18, 0, 0) := by decide +kernel
theorem xa_M_findPair_211 : xm_at xP 79 211 = some (211, .iload 8, 0, 0, 0, 0) := by decide +kernel
theorem xa_M_findPair_213 : xm_at xP 79 213 = some (213, .iaload, 0, 0, 0, 0) := by decide +kernel
theorem xa_M_findPair_214 : xm_at xP 79 214 = some (214, .ior, 0, 0, 0, 0) := by decide +kernel
theorem xa_M_findPair_215 : xm_at xP 79 215 = some (215, .iload 4, 0, 0, 0, 0) := by decide +kernel
theorem xa_M_findPair_217 : xm_at xP 79 217 = some (217, .if_icmp .ne 7, 224, 0, 0, 0) := by decide +kernel
theorem xa_M_findPair_220 : xm_at xP 79 220 = some (220, .iconst 1, 0, 0, 0, 0) := by decide +kernel
theorem xa_M_findPair_221 : xm_at xP 79 221 = some (221, .goto 4, 225, 0, 0, 0) := by decide +kernel
theorem xa_M_findPair_224 : xm_at xP 79 224 = some (224, .iconst 0, 0, 0, 0, 0) := by decide +kernel
theorem xa_M_findPair_225 : xm_at xP 79 225 = some (225, .istore 9, 0, 0, 0, 0) := by decide +kernel
theorem xa_M_findPair_227 : xm_at xP 79 227 = some (227, .aload_n 0, 0, 0, 0, 0) := by decide +kernel
theorem xa_M_findPair_228 : xm_at xP 79 228 = some (228, .getfield 57, 3, 19, 0, 0) := by decide +kernel
theorem xa_M_findPair_231 : xm_at xP 79 231 = some (231, .iload 7, 0, 0, 0, 0) := by decide +kernel
theorem xa_M_findPair_233 : xm_at xP 79 233 = some (233, .iaload, 0, 0, 0, 0) := by decide +kernel
theorem xa_M_findPair_234 : xm_at xP 79 234 = some (234, .aload_n 0, 0, 0, 0, 0) := by decide +kernel
theorem xa_M_findPair_235 : xm_at xP 79 235 = some (235, .getfield 57, 3, 19, 0, 0) := by decide +kernel
theorem xa_M_findPair_238 : xm_at xP 79 238 = some (238, .iload 8, 0, 0, 0, 0) := by decide +kernel
theorem xa_M_findPair_240 : xm_at xP 79 240 = some (240, .iaload, 0, 0, 0, 0) := by decide +kernel
theorem xa_M_findPair_241 : xm_at xP 79 241 = some (241, .if_icmp .lt 40, 281, 0, 0, 0) := by decide +kernel
theorem xa_M_findPair_244 : xm_at xP 79 244 = some (244, .aload_n 0, 0, 0, 0, 0) := by decide +kernel
theorem xa_M_findPair_245 : xm_at xP 79 245 = some (245, .getfield 57, 3, 19, 0, 0) := by decide +kernel
theorem xa_M_findPair_248 : xm_at xP 79 248 = some (248, .iload 7, 0, 0, 0, 0) := by decide +kernel
theorem xa_M_findPair_250 : xm_at xP 79 250 = some (250, .iaload, 0, 0, 0, 0) := by decide +kernel
theorem xa_M_findPair_251 : xm_at xP 79 251 = some (251, .aload_n 0, 0, 0, 0, 0) := by decide +kernel
theorem xa_M_findPair_252 : xm_at xP 79 252 = some (252, .getfield 57, 3, 19, 0, 0) := by decide +kernel
theorem xa_M_findPair_255 : xm_at xP 79 255 = some (255, .iload 8, 0, 0, 0, 0) := by decide +kernel
theorem xa_M_findPair_257 : xm_at xP 79 257 = some (257, .iaload, 0, 0, 0, 0) := by decide +kernel
theorem xa_M_findPair_258 : xm_at xP 79 258 = some (258, .if_icmp .ne 27, 285, 0, 0, 0) := by decide +kernel
theorem xa_M_findPair_261 : xm_at xP 79 261 = some (261, .aload_n 0, 0, 0, 0, 0) := by decide +kernel
theorem xa_M_findPair_262 : xm_at xP 79 262 = some (262, .getfield 54, 3, 18, 0, 0) := by decide +kernel
theorem xa_M_findPair_265 : xm_at xP 79 265 = some (265, .iload 7, 0, 0, 0, 0) := by decide +kernel
theorem xa_M_findPair_267 : xm_at xP 79 267 = some (267, .iaload, 0, 0, 0, 0) := by decide +kernel
theorem xa_M_findPair_268 : xm_at xP 79 268 = some (268, .aload_n 0, 0, 0, 0, 0) := by decide +kernel
theorem xa_M_findPair_269 : xm_at xP 79 269 = some (269, .getfield 54, 3, 18, 0, 0) := by decide +kernel
theorem xa_M_findPair_272 : xm_at xP 79 272 = some (272, .iload 8, 0, 0, 0, 0) := by decide +kernel
theorem xa_M_findPair_274 : xm_at xP 79 274 = some (274, .iaload, 0, 0, 0, 0) := by decide +kernel
theorem xa_M_findPair_275 : xm_at xP 79 275 = some (275, .invokestatic 101, 83, 2, 0, 0) := by decide +kernel
theorem xa_M_findPair_278 : xm_at xP 79 278 = some (278, .ifCond .eq 7, 285, 0, 0, 0) := by decide +kernel
theorem xa_M_findPair_281 : xm_at xP 79 281 = some (281, .iconst 1, 0, 0, 0, 0) := by decide +kernel
theorem xa_M_findPair_282 : xm_at xP 79 282 = some (282, .goto 4, 286, 0, 0, 0) := by decide +kernel
theorem xa_M_findPair_285 : xm_at xP 79 285 = some (285, .iconst 0, 0, 0, 0, 0) := by decide +kernel
theorem xa_M_findPair_286 : xm_at xP 79 286 = some (286, .istore 10, 0, 0, 0, 0) := by decide +kernel
theorem xa_M_findPair_288 : xm_at xP 79 288 = some (288, .iload 9, 0, 0, 0, 0) := by decide +kernel
theorem xa_M_findPair_290 : xm_at xP 79 290 = some (290, .ifCond .eq 71, 361, 0, 0, 0) := by decide +kernel
theorem xa_M_findPair_293 : xm_at xP 79 293 = some (293, .iload 10, 0, 0, 0, 0) := by decide +kernel
theorem xa_M_findPair_295 : xm_at xP 79 295 = some (295, .ifCond .eq 66, 361, 0, 0, 0) := by decide +kernel
theorem xa_M_findPair_298 : xm_at xP 79 298 = some (298, .iload 6, 0, 0, 0, 0) := by decide +kernel
theorem xa_M_findPair_300 : xm_at xP 79 300 = some (300, .ifCond .lt 57, 357, 0, 0, 0) := by decide +kernel
theorem xa_M_findPair_303 : xm_at xP 79 303 = some (303, .aload_n 0, 0, 0, 0, 0) := by decide +kernel
theorem xa_M_findPair_304 : xm_at xP 79 304 = some (304, .getfield 57, 3, 19, 0, 0) := by decide +kernel
theorem xa_M_findPair_307 : xm_at xP 79 307 = some (307, .iload 7, 0, 0, 0, 0) := by decide +kernel
theorem xa_M_findPair_309 : xm_at xP 79 309 = some (309, .iaload, 0, 0, 0, 0) := by decide +kernel
theorem xa_M_findPair_310 : xm_at xP 79 310 = some (310, .aload_n 0, 0, 0, 0, 0) := by decide +kernel
theorem xa_M_findPair_311 : xm_at xP 79 311 = some (311, .getfield 57, 3, 19, 0, 0) := by decide +kernel
theorem xa_M_findPair_314 : xm_at xP 79 314 = some (314, .iload 6, 0, 0, 0, 0) := by decide +kernel
theorem xa_M_findPair_316 : xm_at xP 79 316 = some (316, .iaload, 0, 0, 0, 0) := by decide +kernel
theorem xa_M_findPair_317 : xm_at xP 79 317 = some (317, .if_icmp .lt 40, 357, 0, 0, 0) := by decide +kernel
theorem xa_M_findPair_320 : xm_at xP 79 320 = some (320, .aload_n 0, 0, 0, 0, 0) := by decide +kernel
theorem xa_M_findPair_321 : xm_at xP 79 321 = some (321, .getfield 57, 3, 19, 0, 0) := by decide +kernel
theorem xa_M_findPair_324 : xm_at xP 79 324 = some (324, .iload 7, 0, 0, 0, 0) := by decide +kernel
theorem xa_M_findPair_326 : xm_at xP 79 326 = some (326, .iaload, 0, 0, 0, 0) := by decide +kernel
theorem xa_M_findPair_327 : xm_at xP 79 327 = some (327, .aload_n 0, 0, 0, 0, 0) := by decide +kernel
theorem xa_M_findPair_328 : xm_at xP 79 328 = some (328, .getfield 57, 3, 19, 0, 0) := by decide +kernel
theorem xa_M_findPair_331 : xm_at xP 79 331 = some (331, .iload 6, 0, 0, 0, 0) := by decide +kernel
theorem xa_M_findPair_333 : xm_at xP 79 333 = some (333, .iaload, 0, 0, 0, 0) := by decide +kernel
theorem xa_M_findPair_334 : xm_at xP 79 334 = some (334, .if_icmp .ne 27, 361, 0, 0, 0) := by decide +kernel
theorem xa_M_findPair_337 : xm_at xP 79 337 = some (337, .aload_n 0, 0, 0, 0, 0) := by decide +kernel
theorem xa_M_findPair_338 : xm_at xP 79 338 = some (338, .getfield 54, 3, 18, 0, 0) := by decide +kernel
theorem xa_M_findPair_341 : xm_at xP 79 341 = some (341, .iload 7, 0, 0, 0, 0) := by decide +kernel
theorem xa_M_findPair_343 : xm_at xP 79 343 = some (343, .iaload, 0, 0, 0, 0) := by decide +kernel
theorem xa_M_findPair_344 : xm_at xP 79 344 = some (344, .aload_n 0, 0, 0, 0, 0) := by decide +kernel
theorem xa_M_findPair_345 : xm_at xP 79 345 = some (345, .getfield 54, 3, 18, 0, 0) := by decide +kernel
theorem xa_M_findPair_348 : xm_at xP 79 348 = some (348, .iload 6, 0, 0, 0, 0) := by decide +kernel
theorem xa_M_findPair_350 : xm_at xP 79 350 = some (350, .iaload, 0, 0, 0, 0) := by decide +kernel
theorem xa_M_findPair_351 : xm_at xP 79 351 = some (351, .invokestatic 101, 83, 2, 0, 0) := by decide +kernel
theorem xa_M_findPair_354 : xm_at xP 79 354 = some (354, .ifCond .eq 7, 361, 0, 0, 0) := by decide +kernel
theorem xa_M_findPair_357 : xm_at xP 79 357 = some (357, .iload 7, 0, 0, 0, 0) := by decide +kernel
theorem xa_M_findPair_359 : xm_at xP 79 359 = some (359, .istore 6, 0, 0, 0, 0) := by decide +kernel
theorem xa_M_findPair_361 : xm_at xP 79 361 = some (361, .iinc 8 1, 0, 0, 0, 0) := by decide +kernel
theorem xa_M_findPair_364 : xm_at xP 79 364 = some (364, .goto (-198), 166, 0, 0, 0) := by decide +kernel
theorem xa_M_findPair_367 : xm_at xP 79 367 = some (367, .iinc 7 1, 0, 0, 0, 0) := by decide +kernel
theorem xa_M_findPair_370 : xm_at xP 79 370 = some (370, .goto (-216), 154, 0, 0, 0) := by decide +kernel
theorem xa_M_findPair_373 : xm_at xP 79 373 = some (373, .aload_n 0, 0, 0, 0, 0) := by decide +kernel
theorem xa_M_findPair_374 : xm_at xP 79 374 = some (374, .aload_n 0, 0, 0, 0, 0) := by decide +kernel
theorem xa_M_findPair_375 : xm_at xP 79 375 = some (375, .getfield 54, 3, 18, 0, 0) := by decide +kernel
theorem xa_M_findPair_378 : xm_at xP 79 378 = some (378, .iload 6, 0, 0, 0, 0) := by decide +kernel
theorem xa_M_findPair_380 : xm_at xP 79 380 = some (380, .iaload, 0, 0, 0, 0) := by decide +kernel
theorem xa_M_findPair_381 : xm_at xP 79 381 = some (381, .putfield 105, 3, 22, 0, 0) := by decide +kernel
theorem xa_M_findPair_384 : xm_at xP 79 384 = some (384, .aload_n 0, 0, 0, 0, 0) := by decide +kernel
theorem xa_M_findPair_385 : xm_at xP 79 385 = some (385, .iload 4, 0, 0, 0, 0) := by decide +kernel
theorem xa_M_findPair_387 : xm_at xP 79 387 = some (387, .aload_n 0, 0, 0, 0, 0) := by decide +kernel
theorem xa_M_findPair_388 : xm_at xP 79 388 = some (388, .getfield 54, 3, 18, 0, 0) := by decide +kernel
theorem xa_M_findPair_391 : xm_at xP 79 391 = some (391, .iload 6, 0, 0, 0, 0) := by decide +kernel
theorem xa_M_findPair_393 : xm_at xP 79 393 = some (393, .iaload, 0, 0, 0, 0) := by decide +kernel
theorem xa_M_findPair_394 : xm_at xP 79 394 = some (394, .iconst (-1), 0, 0, 0, 0) := by decide +kernel
theorem xa_M_findPair_395 : xm_at xP 79 395 = some (395, .ixor, 0, 0, 0, 0) := by decide +kernel
theorem xa_M_findPair_396 : xm_at xP 79 396 = some (396, .iand, 0, 0, 0, 0) := by decide +kernel
theorem xa_M_findPair_397 : xm_at xP 79 397 = some (397, .putfield 108, 3, 23, 0, 0) := by decide +kernel
theorem xa_M_findPair_400 : xm_at xP 79 400 = some (400, .iconst 1, 0, 0, 0, 0) := by decide +kernel
theorem xa_M_findPair_401 : xm_at xP 79 401 = some (401, .ireturn, 0, 0, 0, 1) := by decide +kernel
theorem xa_M_find_0 : xm_at xP 75 0 = some (0, .iload 4, 0, 0, 0, 0) := by decide +kernel
theorem xa_M_find_2 : xm_at xP 75 2 = some (2, .ifCond .eq 17, 19, 0, 0, 0) := by decide +kernel
theorem xa_M_find_5 : xm_at xP 75 5 = some (5, .aload_n 0, 0, 0, 0, 0) := by decide +kernel
theorem xa_M_find_6 : xm_at xP 75 6 = some (6, .aload_n 0, 0, 0, 0, 0) := by decide +kernel
theorem xa_M_find_7 : xm_at xP 75 7 = some (7, .iload_n 1, 0, 0, 0, 0) := by decide +kernel
theorem xa_M_find_8 : xm_at xP 75 8 = some (8, .invokevirtual 112, 76, 2, 3, 0) := by decide +kernel
theorem xa_M_find_11 : xm_at xP 75 11 = some (11, .iload_n 2, 0, 0, 0, 0) := by decide +kernel
theorem xa_M_find_12 : xm_at xP 75 12 = some (12, .iload_n 3, 0, 0, 0, 0) := by decide +kernel
theorem xa_M_find_13 : xm_at xP 75 13 = some (13, .invokevirtual 115, 79, 4, 3, 0) := by decide +kernel
theorem xa_M_find_16 : xm_at xP 75 16 = some (16, .goto 14, 30, 0, 0, 0) := by decide +kernel
theorem xa_M_find_19 : xm_at xP 75 19 = some (19, .aload_n 0, 0, 0, 0, 0) := by decide +kernel
theorem xa_M_find_20 : xm_at xP 75 20 = some (20, .aload_n 0, 0, 0, 0, 0) := by decide +kernel
theorem xa_M_find_21 : xm_at xP 75 21 = some (21, .iload_n 1, 0, 0, 0, 0) := by decide +kernel
theorem xa_M_find_22 : xm_at xP 75 22 = some (22, .invokevirtual 112, 76, 2, 3, 0) := by decide +kernel
theorem xa_M_find_25 : xm_at xP 75 25 = some (25, .iload_n 2, 0, 0, 0, 0) := by decide +kernel
theorem xa_M_find_26 : xm_at xP 75 26 = some (26, .iload_n 3, 0, 0, 0, 0) := by decide +kernel
theorem xa_M_find_27 : xm_at xP 75 27 = some (27, .invokevirtual 119, 84, 4, 3, 0) := by decide +kernel
theorem xa_M_find_30 : xm_at xP 75 30 = some (30, .ireturn, 0, 0, 0, 1) := by decide +kernel
section XM6
variable {xs : Nat → Int32} {LS d : Nat} {ks : Nat} {fl : Bool} {h : List va_E} {Q : (Option Value ⊕ Nat) → xm_S → Prop}
variable {Mc : Int32} {Mn : Nat} {Mm : Nat} {Mh : Int32} {Mp : Nat} {Mfw : Int32} {Mfs : Int32} {Me : Nat → Nat} {Ml : Nat → Nat} {Mbr : Nat → Bool} {Mlk : Nat → Bool} {Mt : Nat → Bool} {Mg : Nat → Bool} {Ma : Nat → Nat} {Mb : Nat → Nat} {Mw : Nat → Nat} {Mwk : Nat → Int32} {Msp : Nat → Int32} {Mon : Nat → Int32} {Mct : Nat → Int32} {MS : Nat → Int32} {MZ : Nat → Int32} {MA : Nat → Nat} {MN : Nat → Nat}
/-- the sets of all paths from a to b among the fibres s, as the model lists them -/
def xPL (e : Nat → Nat) (m : Nat) (s : Int32) (a b : Nat) : List Int32 := xdl e m s b 6 (fun _ => a) 0 0
/-- S and Z hold the list and its lengths -/
def xSZ (l : Nat → Nat) (m : Nat) (L : List Int32) (S Z : Nat → Int32) : Prop := ∀ i x, L[i]? = some x → S i = x ∧ Z i = xlen (fun j => nI (l j)) x m
theorem c_M_list {s : Int32} {a b : Nat} (hm : Mm ≤ 14) (hE : ∀ j, Me j < 7) (ha : a < 7) (hb : b < 7) (hA : ∀ j, MA j < 7) (hN : ∀ j, MN j < 100) (hlen : (xPL Me Mm s a b).length ≤ 4000) (hM : xMd h Mc Mn Mm Mh Mp Mfw Mfs Me Ml Mbr Mlk Mt Mg Ma Mb Mw Mwk Msp Mon Mct MS MZ MA MN)
    (k : ∀ h' fl' S Z A N, xMd h' Mc Mn Mm Mh (xPL Me Mm s a b).length Mfw Mfs Me Ml Mbr Mlk Mt Mg Ma Mb Mw Mwk Msp Mon Mct S Z A N → xS h h' 22 40 → xSZ Ml Mm (xPL Me Mm s a b) S Z → (∀ j, A j < 7) → (∀ j, N j < 100) → Q (.inl none) (h', ks, fl')) :
    xG xs LS (d + 2) 80 (0, xm_entry xP 80 [.ref 22, .int s, .int (nI a), .int (nI b)], []) (h, ks, fl) Q := by
  show xG xs LS (d + 2) 80 (0, [some (.ref 22), some (.int s), some (.int (nI a)), some (.int (nI b)), none, none, none, none], []) (h, ks, fl) Q
  obtain ⟨g22, g23, g24, g25, g26, g27, g28, g29, g30, g31, g32, g33, g34, g35, g36, g37, g38, g39⟩ := id hM
  refine xg_aload_n xa_M_list_0 rfl ?_
  refine xg_iconst (v := 0) xa_M_list_1 (by decide) ?_
  refine xg_putf (fs' := [_, _, _, _, _, _, _, _, _, _, _, _, _, _, _, _, _, _, _, _, _, _, _, _]) xa_M_list_2 (by assumption) (Nat.le_of_ble_eq_true rfl) rfl rfl (fun hq2 u2 => ?_)
  have hM1 := xMd_o (Mp' := 0) hM u2
  obtain ⟨g22, g23, g24, g25, g26, g27, g28, g29, g30, g31, g32, g33, g34, g35, g36, g37, g38, g39⟩ := id hM1
  refine xg_iconst (v := 0) xa_M_list_5 (by decide) ?_
  refine xg_istore (L' := [_, _, _, _, _, _, _, _]) xa_M_list_6 (Nat.le_of_ble_eq_true rfl) rfl ?_
  refine xg_iconst (v := 0) xa_M_list_8 (by decide) ?_
  refine xg_istore (L' := [_, _, _, _, _, _, _, _]) xa_M_list_9 (Nat.le_of_ble_eq_true rfl) rfl ?_
  refine xg_aload_n xa_M_list_11 rfl ?_
  refine xg_getfield xa_M_list_12 (by assumption) rfl ?_
  refine xg_iconst (v := 0) xa_M_list_15 (by decide) ?_
  refine xg_iload_n xa_M_list_16 rfl ?_
  refine xg_iastf_n (i := 0) xa_M_list_17 (by assumption) rfl (by decide) (by decide) (fun h17 u17 => ?_)
  have hM2 := xMd_MA hM1 u17
  obtain ⟨g22, g23, g24, g25, g26, g27, g28, g29, g30, g31, g32, g33, g34, g35, g36, g37, g38, g39⟩ := id hM2
  refine xg_aload_n xa_M_list_18 rfl ?_
  refine xg_getfield xa_M_list_19 (by assumption) rfl ?_
  refine xg_iconst (v := 0) xa_M_list_22 (by decide) ?_
  refine xg_iconst (v := 0) xa_M_list_23 (by decide) ?_
  refine xg_iastf_n (i := 0) xa_M_list_24 (by assumption) rfl (by decide) (by decide) (fun h24 u24 => ?_)
  have hM3 := xMd_MN (x := 0) hM2 u24
  have eL : xPL Me Mm s a b = if xup MA 0 a 0 = b then [(0 : Int32)] else xdk Me Mm s b 6 (xup MA 0 a) 0 0 0 Mm := by
    rw [← xdl_k]
    exact xdl_congr 6 _ _ 0 0 (fun j hj => by rw [show j = 0 by omega, xup_s])
  refine xl_node (a := a) hm hE hb 7 6 (by omega) Mm 0 0 0 0 MS MZ (xup MA 0 a) (xup MN 0 0) h24 _ none none (xPL Me Mm s a b) Q rfl (by omega) (xup_s _ _ _) eL hM3 ?_ ?_ (fun i j hi hj _ => by omega) (fun g _ hg => by rw [xb_0] at hg; cases hg) (by omega) ?_
  · intro j
    by_cases c : j = 0
    · rw [c, xup_s]; exact ha
    · rw [xup_n _ _ c]; exact hA j
  · intro j
    by_cases c : j = 0
    · rw [c, xup_s]; omega
    · rw [xup_n _ _ c]; exact hN j
  · intro h' fl' S Z A N j6 j7 v p' q1 q2 q3 q4 q5 q6 q7 q8 q9 q10
    rw [Nat.zero_add] at q1
    rw [q9 rfl]
    refine xg_iload xa_M_list_25 rfl ?_
    refine xg_if_lt xa_M_list_27 (fun _ => ?_) (fun c => absurd (show (-1 : Int32) < 0 from by decide) c)
    refine xg_return xa_M_list_194 (k h' _ S Z A N q1 ((((u2.toS (by decide) (by decide)).tr (u17.toS (by decide) (by decide))).tr (u24.toS (by decide) (by decide))).tr q2) (fun i x hx => ?_) q7 q8)
    have := q4 i x hx
    rw [Nat.zero_add] at this
    exact this
/-- path p is less than path q -/
def xls (S Z : Nat → Int32) (p q : Nat) : Bool := decide (Z p < Z q) || (decide (Z p = Z q) && xbef (S p) (S q))
/-- the least of the first paths -/
def xfp (S Z : Nat → Int32) : Nat → Option Nat
  | 0 => none
  | p + 1 => match xfp S Z p with
    | none => some p
    | some b => if xls S Z p b = true then some p else some b
theorem xfp_lt (S Z : Nat → Int32) : ∀ p b, xfp S Z p = some b → b < p := by
  intro p
  induction p with
  | zero => intro b hb; cases hb
  | succ p ih =>
    intro b hb
    unfold xfp at hb
    cases hx : xfp S Z p with
    | none => rw [hx] at hb; cases hb; omega
    | some c =>
      rw [hx] at hb
      simp only at hb
      have := ih c hx
      by_cases q : xls S Z p c = true
      · rw [if_pos q] at hb; cases hb; omega
      · rw [if_neg q] at hb; cases hb; omega
theorem c_M_findPath {s : Int32} {a b : Nat} (hm : Mm ≤ 14) (hE : ∀ j, Me j < 7) (ha : a < 7) (hb : b < 7) (hA : ∀ j, MA j < 7) (hN : ∀ j, MN j < 100) (hlen : (xPL Me Mm s a b).length ≤ 4000) (hM : xMd h Mc Mn Mm Mh Mp Mfw Mfs Me Ml Mbr Mlk Mt Mg Ma Mb Mw Mwk Msp Mon Mct MS MZ MA MN)
    (k0 : ∀ h' fl' S Z A N, xMd h' Mc Mn Mm Mh (xPL Me Mm s a b).length Mfw Mfs Me Ml Mbr Mlk Mt Mg Ma Mb Mw Mwk Msp Mon Mct S Z A N → xS h h' 22 40 → xSZ Ml Mm (xPL Me Mm s a b) S Z → (∀ j, A j < 7) → (∀ j, N j < 100) → xfp S Z (xPL Me Mm s a b).length = none → Q (.inl (some (.int 0))) (h', ks, fl'))
    (k1 : ∀ h' fl' S Z A N i, xMd h' Mc Mn Mm Mh (xPL Me Mm s a b).length (S i) 0 Me Ml Mbr Mlk Mt Mg Ma Mb Mw Mwk Msp Mon Mct S Z A N → xS h h' 22 40 → xSZ Ml Mm (xPL Me Mm s a b) S Z → (∀ j, A j < 7) → (∀ j, N j < 100) → xfp S Z (xPL Me Mm s a b).length = some i → Q (.inl (some (.int 1))) (h', ks, fl')) :
    xG xs LS (d + 3) 84 (0, xm_entry xP 84 [.ref 22, .int s, .int (nI a), .int (nI b)], []) (h, ks, fl) Q := by
  show xG xs LS (d + 3) 84 (0, [some (.ref 22), some (.int s), some (.int (nI a)), some (.int (nI b)), none, none], []) (h, ks, fl) Q
  obtain ⟨g22, g23, g24, g25, g26, g27, g28, g29, g30, g31, g32, g33, g34, g35, g36, g37, g38, g39⟩ := id hM
  refine xg_aload_n xa_M_findPath_0 rfl ?_
  refine xg_iload_n xa_M_findPath_1 rfl ?_
  refine xg_iload_n xa_M_findPath_2 rfl ?_
  refine xg_iload_n xa_M_findPath_3 rfl ?_
  refine xg_callV0 xa_M_findPath_4 ⟨Nat.le_of_ble_eq_true rfl, Nat.le_of_ble_eq_true rfl, rfl⟩ rfl rfl (by assumption) ?_
  refine c_M_list hm hE ha hb hA hN hlen hM (fun h' fl' S Z A N hM' hS' hSZ hA' hN' => xK0_d ?_)
  clear g22 g23 g24 g25 g26 g27 g28 g29 g30 g31 g32 g33 g34 g35 g36 g37 g38 g39
  obtain ⟨g22, g23, g24, g25, g26, g27, g28, g29, g30, g31, g32, g33, g34, g35, g36, g37, g38, g39⟩ := id hM'
  have k0 := fun fl' => k0 h' fl' S Z A N hM' hS' hSZ hA' hN'
  have k1 := fun h2 fl' i => k1 h2 fl' S Z A N i
  generalize (xPL Me Mm s a b).length = P at *
  have loop : ∀ n p fl', p + n = P → xG xs LS (d + 3) 84 (13, [some (.ref 22), some (.int s), some (.int (nI a)), some (.int (nI b)), some (.int (xo (xfp S Z p))), some (.int (nI p))], []) (h', ks, fl') Q := by
    intro n
    induction n with
    | zero =>
      intro p fl' hp
      have e : p = P := by omega
      subst e
      refine xg_iload xa_M_findPath_13 rfl ?_
      refine xg_aload_n xa_M_findPath_15 rfl ?_
      refine xg_getfield xa_M_findPath_16 (by assumption) rfl ?_
      refine xg_icmp_ge xa_M_findPath_19 (fun _ => ?_) (fun c => absurd (nI_le (by omega) (by omega)) c)
      cases hx : xfp S Z p with
      | none =>
        refine xg_iload xa_M_findPath_91 rfl ?_
        refine xg_if_ge xa_M_findPath_93 (fun c => absurd c (show ¬ (0 : Int32) ≤ -1 from by decide)) (fun _ => ?_)
        refine xg_iconst (v := 0) xa_M_findPath_96 (by decide) ?_
        refine xg_zreturn xa_M_findPath_97 (Or.inl rfl) ?_
        exact k0 _ hx
      | some i =>
        have hi := xfp_lt S Z p i hx
        have hi4 : i < 4000 := by omega
        show xG xs LS (d + 3) 84 (91, [some (.ref 22), some (.int s), some (.int (nI a)), some (.int (nI b)), some (.int (nI i)), some (.int (nI p))], []) (h', ks, fl') Q
        refine xg_iload xa_M_findPath_91 rfl ?_
        refine xg_if_ge xa_M_findPath_93 (fun _ => ?_) (fun c => absurd (nI_pos' (by omega)) c)
        refine xg_aload_n xa_M_findPath_98 rfl ?_
        refine xg_aload_n xa_M_findPath_99 rfl ?_
        refine xg_getfield xa_M_findPath_100 (by assumption) rfl ?_
        refine xg_iload xa_M_findPath_103 rfl ?_
        refine xg_iald_n xa_M_findPath_105 (by assumption) rfl (by assumption) (by decide) ?_
        refine xg_putf (fs' := [_, _, _, _, _, _, _, _, _, _, _, _, _, _, _, _, _, _, _, _, _, _, _, _]) xa_M_findPath_106 (by assumption) (Nat.le_of_ble_eq_true rfl) rfl rfl (fun h106 u106 => ?_)
        have hM2 := xMd_o (Mfw' := S i) hM' u106
        obtain ⟨g22, g23, g24, g25, g26, g27, g28, g29, g30, g31, g32, g33, g34, g35, g36, g37, g38, g39⟩ := id hM2
        refine xg_aload_n xa_M_findPath_109 rfl ?_
        refine xg_iconst (v := 0) xa_M_findPath_110 (by decide) ?_
        refine xg_putf (fs' := [_, _, _, _, _, _, _, _, _, _, _, _, _, _, _, _, _, _, _, _, _, _, _, _]) xa_M_findPath_111 (by assumption) (Nat.le_of_ble_eq_true rfl) rfl rfl (fun h111 u111 => ?_)
        refine xg_iconst (v := 1) xa_M_findPath_114 (by decide) ?_
        have hM3 := xMd_o (Mfs' := 0) hM2 u111
        refine xg_zreturn xa_M_findPath_115 (Or.inr rfl) (k1 h111 _ i hM3 ((hS'.tr (u106.toS (by decide) (by decide))).tr (u111.toS (by decide) (by decide))) hSZ hA' hN' hx)
    | succ n ih =>
      intro p fl' hp
      have hp4 : p < 4000 := by omega
      have next : ∀ v fl', v = xfp S Z (p + 1) → xG xs LS (d + 3) 84 (85, [some (.ref 22), some (.int s), some (.int (nI a)), some (.int (nI b)), some (.int (xo v)), some (.int (nI p))], []) (h', ks, fl') Q := by
        intro v fl' e
        subst e
        refine xg_iinc (L' := [_, _, _, _, _, _]) xa_M_findPath_85 rfl (xi_inc _) rfl ?_
        refine xg_goto xa_M_findPath_88 ?_
        exact ih (p + 1) _ (by omega)
      have take : ∀ v fl', some p = xfp S Z (p + 1) → xG xs LS (d + 3) 84 (81, [some (.ref 22), some (.int s), some (.int (nI a)), some (.int (nI b)), some (.int v), some (.int (nI p))], []) (h', ks, fl') Q := by
        intro v fl' e
        refine xg_iload xa_M_findPath_81 rfl ?_
        refine xg_istore (L' := [_, _, _, _, _, _]) xa_M_findPath_83 (Nat.le_of_ble_eq_true rfl) rfl ?_
        exact next _ _ e
      refine xg_iload xa_M_findPath_13 rfl ?_
      refine xg_aload_n xa_M_findPath_15 rfl ?_
      refine xg_getfield xa_M_findPath_16 (by assumption) rfl ?_
      refine xg_icmp_ge xa_M_findPath_19 (fun c => absurd c (nI_ge (by omega) (by omega))) (fun _ => ?_)
      have e1 : xfp S Z (p + 1) = match xfp S Z p with
        | none => some p
        | some b => if xls S Z p b = true then some p else some b := rfl
      cases hx : xfp S Z p with
      | none =>
        rw [hx] at e1
        refine xg_iload xa_M_findPath_22 rfl ?_
        refine xg_if_lt xa_M_findPath_24 (fun _ => take _ _ e1.symm) (fun c => absurd (show (-1 : Int32) < 0 from by decide) c)
      | some i =>
        rw [hx] at e1
        simp only at e1
        have hi := xfp_lt S Z p i hx
        have hi4 : i < 4000 := by omega
        have yes : xls S Z p i = true → some p = xfp S Z (p + 1) := fun q => by rw [e1, if_pos q]
        have no : ¬ xls S Z p i = true → some i = xfp S Z (p + 1) := fun q => by rw [e1, if_neg q]
        unfold xls at yes no
        show xG xs LS (d + 3) 84 (22, [some (.ref 22), some (.int s), some (.int (nI a)), some (.int (nI b)), some (.int (nI i)), some (.int (nI p))], []) (h', ks, fl') Q
        refine xg_iload xa_M_findPath_22 rfl ?_
        refine xg_if_lt xa_M_findPath_24 (fun c => absurd c (nI_pos (by omega))) (fun _ => ?_)
        refine xg_aload_n xa_M_findPath_27 rfl ?_
        refine xg_getfield xa_M_findPath_28 (by assumption) rfl ?_
        refine xg_iload xa_M_findPath_31 rfl ?_
        refine xg_iald_n xa_M_findPath_33 (by assumption) rfl (by assumption) (by decide) ?_
        refine xg_aload_n xa_M_findPath_34 rfl ?_
        refine xg_getfield xa_M_findPath_35 (by assumption) rfl ?_
        refine xg_iload xa_M_findPath_38 rfl ?_
        refine xg_iald_n xa_M_findPath_40 (by assumption) rfl (by assumption) (by decide) ?_
        refine xg_icmp_lt xa_M_findPath_41 (fun c => take _ _ (yes (by rw [decide_eq_true c]; rfl))) (fun c41 => ?_)
        refine xg_aload_n xa_M_findPath_44 rfl ?_
        refine xg_getfield xa_M_findPath_45 (by assumption) rfl ?_
        refine xg_iload xa_M_findPath_48 rfl ?_
        refine xg_iald_n xa_M_findPath_50 (by assumption) rfl (by assumption) (by decide) ?_
        refine xg_aload_n xa_M_findPath_51 rfl ?_
        refine xg_getfield xa_M_findPath_52 (by assumption) rfl ?_
        refine xg_iload xa_M_findPath_55 rfl ?_
        refine xg_iald_n xa_M_findPath_57 (by assumption) rfl (by assumption) (by decide) ?_
        refine xg_icmp_ne xa_M_findPath_58 (fun c => next (some i) _ (no (by rw [decide_eq_false c41, decide_eq_false c]; simp))) (fun c58 => ?_)
        refine xg_aload_n xa_M_findPath_61 rfl ?_
        refine xg_getfield xa_M_findPath_62 (by assumption) rfl ?_
        refine xg_iload xa_M_findPath_65 rfl ?_
        refine xg_iald_n xa_M_findPath_67 (by assumption) rfl (by assumption) (by decide) ?_
        refine xg_aload_n xa_M_findPath_68 rfl ?_
        refine xg_getfield xa_M_findPath_69 (by assumption) rfl ?_
        refine xg_iload xa_M_findPath_72 rfl ?_
        refine xg_iald_n xa_M_findPath_74 (by assumption) rfl (by assumption) (by decide) ?_
        refine xg_callS1 xa_M_findPath_75 ⟨Nat.le_of_ble_eq_true rfl, Nat.le_of_ble_eq_true rfl, rfl⟩ rfl rfl ?_
        refine c_M_before ?_
        refine xK1_c ?_
        refine xg_if_eq xa_M_findPath_78 (fun c => next (some i) _ (no (by rw [(xz0 _).mp c, Bool.and_false, Bool.or_false, decide_eq_false c41]; decide))) (fun c78 => take _ _ (yes (by rw [decide_eq_true c58, xz1 c78]; simp)))
  refine xg_iconst (v := (-1)) xa_M_findPath_7 (by decide) ?_
  refine xg_istore (L' := [_, _, _, _, _, _]) xa_M_findPath_8 (Nat.le_of_ble_eq_true rfl) rfl ?_
  refine xg_iconst (v := 0) xa_M_findPath_10 (by decide) ?_
  refine xg_istore (L' := [_, _, _, _, _, _]) xa_M_findPath_11 (Nat.le_of_ble_eq_true rfl) rfl ?_
  exact loop P 0 _ (by omega)
end XM6
