/-! 72a.rows: the law's rows. -/
theorem xa_L_law_0 : xm_at xP 104 0 = some (0, .new 8, 2, 0, 0, 0) := by decide +kernel
theorem xa_L_law_3 : xm_at xP 104 3 = some (3, .dup, 0, 0, 0, 0) := by decide +kernel
theorem xa_L_law_4 : xm_at xP 104 4 = some (4, .invokespecial 67, 0, 0, 0, 0) := by decide +kernel
theorem xa_L_law_7 : xm_at xP 104 7 = some (7, .astore_n 1, 0, 0, 0, 0) := by decide +kernel
theorem xa_L_law_8 : xm_at xP 104 8 = some (8, .new 68, 3, 0, 0, 0) := by decide +kernel
theorem xa_L_law_11 : xm_at xP 104 11 = some (11, .dup, 0, 0, 0, 0) := by decide +kernel
theorem xa_L_law_12 : xm_at xP 104 12 = some (12, .invokespecial 70, 68, 0, 0, 0) := by decide +kernel
theorem xa_L_law_15 : xm_at xP 104 15 = some (15, .astore_n 2, 0, 0, 0, 0) := by decide +kernel
theorem xa_L_law_16 : xm_at xP 104 16 = some (16, .iconst 1, 0, 0, 0, 0) := by decide +kernel
theorem xa_L_law_17 : xm_at xP 104 17 = some (17, .newarray .long, 2, 0, 0, 0) := by decide +kernel
theorem xa_L_law_19 : xm_at xP 104 19 = some (19, .astore_n 3, 0, 0, 0, 0) := by decide +kernel
theorem xa_L_law_20 : xm_at xP 104 20 = some (20, .iconst 0, 0, 0, 0, 0) := by decide +kernel
theorem xa_L_law_21 : xm_at xP 104 21 = some (21, .istore 4, 0, 0, 0, 0) := by decide +kernel
theorem xa_L_law_23 : xm_at xP 104 23 = some (23, .iload 4, 0, 0, 0, 0) := by decide +kernel
theorem xa_L_law_25 : xm_at xP 104 25 = some (25, .aload_n 0, 0, 0, 0, 0) := by decide +kernel
theorem xa_L_law_26 : xm_at xP 104 26 = some (26, .arraylength, 0, 0, 0, 0) := by decide +kernel
theorem xa_L_law_27 : xm_at xP 104 27 = some (27, .iconst 4, 0, 0, 0, 0) := by decide +kernel
theorem xa_L_law_28 : xm_at xP 104 28 = some (28, .isub, 0, 0, 0, 0) := by decide +kernel
theorem xa_L_law_29 : xm_at xP 104 29 = some (29, .if_icmp .gt 1033, 1062, 0, 0, 0) := by decide +kernel
theorem xa_L_law_32 : xm_at xP 104 32 = some (32, .aload_n 0, 0, 0, 0, 0) := by decide +kernel
theorem xa_L_law_33 : xm_at xP 104 33 = some (33, .iload 4, 0, 0, 0, 0) := by decide +kernel
theorem xa_L_law_35 : xm_at xP 104 35 = some (35, .iaload, 0, 0, 0, 0) := by decide +kernel
theorem xa_L_law_36 : xm_at xP 104 36 = some (36, .bipush 31, 0, 0, 0, 0) := by decide +kernel
theorem xa_L_law_38 : xm_at xP 104 38 = some (38, .iand, 0, 0, 0, 0) := by decide +kernel
theorem xa_L_law_39 : xm_at xP 104 39 = some (39, .tableswitch 1017 0 16 #[81, 117, 197, 293, 329, 393, 429, 465, 501, 512, 608, 676, 744, 800, 868, 948, 961], 0, 0, 81, 0) := by decide +kernel
theorem xa_L_law_120 : xm_at xP 104 120 = some (120, .aload_n 1, 0, 0, 0, 0) := by decide +kernel
theorem xa_L_law_121 : xm_at xP 104 121 = some (121, .aload_n 0, 0, 0, 0, 0) := by decide +kernel
theorem xa_L_law_122 : xm_at xP 104 122 = some (122, .iload 4, 0, 0, 0, 0) := by decide +kernel
theorem xa_L_law_124 : xm_at xP 104 124 = some (124, .iconst 1, 0, 0, 0, 0) := by decide +kernel
theorem xa_L_law_125 : xm_at xP 104 125 = some (125, .iadd, 0, 0, 0, 0) := by decide +kernel
theorem xa_L_law_126 : xm_at xP 104 126 = some (126, .iaload, 0, 0, 0, 0) := by decide +kernel
theorem xa_L_law_127 : xm_at xP 104 127 = some (127, .invokestatic 71, 10, 2, 0, 0) := by decide +kernel
theorem xa_L_law_130 : xm_at xP 104 130 = some (130, .istore 5, 0, 0, 0, 0) := by decide +kernel
theorem xa_L_law_132 : xm_at xP 104 132 = some (132, .aload_n 2, 0, 0, 0, 0) := by decide +kernel
theorem xa_L_law_133 : xm_at xP 104 133 = some (133, .aload_n 0, 0, 0, 0, 0) := by decide +kernel
theorem xa_L_law_134 : xm_at xP 104 134 = some (134, .iload 4, 0, 0, 0, 0) := by decide +kernel
theorem xa_L_law_136 : xm_at xP 104 136 = some (136, .iconst 1, 0, 0, 0, 0) := by decide +kernel
theorem xa_L_law_137 : xm_at xP 104 137 = some (137, .iadd, 0, 0, 0, 0) := by decide +kernel
theorem xa_L_law_138 : xm_at xP 104 138 = some (138, .iaload, 0, 0, 0, 0) := by decide +kernel
theorem xa_L_law_139 : xm_at xP 104 139 = some (139, .invokevirtual 76, 70, 2, 3, 0) := by decide +kernel
theorem xa_L_law_142 : xm_at xP 104 142 = some (142, .aload_n 2, 0, 0, 0, 0) := by decide +kernel
theorem xa_L_law_143 : xm_at xP 104 143 = some (143, .invokevirtual 77, 69, 1, 3, 0) := by decide +kernel
theorem xa_L_law_146 : xm_at xP 104 146 = some (146, .iload 5, 0, 0, 0, 0) := by decide +kernel
theorem xa_L_law_148 : xm_at xP 104 148 = some (148, .if_icmp .eq 5, 153, 0, 0, 0) := by decide +kernel
theorem xa_L_law_151 : xm_at xP 104 151 = some (151, .iconst 0, 0, 0, 0, 0) := by decide +kernel
theorem xa_L_law_152 : xm_at xP 104 152 = some (152, .ireturn, 0, 0, 0, 1) := by decide +kernel
theorem xa_L_law_153 : xm_at xP 104 153 = some (153, .goto 903, 1056, 0, 0, 0) := by decide +kernel
theorem xa_L_law_156 : xm_at xP 104 156 = some (156, .aload_n 1, 0, 0, 0, 0) := by decide +kernel
theorem xa_L_law_157 : xm_at xP 104 157 = some (157, .aload_n 0, 0, 0, 0, 0) := by decide +kernel
theorem xa_L_law_158 : xm_at xP 104 158 = some (158, .iload 4, 0, 0, 0, 0) := by decide +kernel
theorem xa_L_law_160 : xm_at xP 104 160 = some (160, .iconst 1, 0, 0, 0, 0) := by decide +kernel
theorem xa_L_law_161 : xm_at xP 104 161 = some (161, .iadd, 0, 0, 0, 0) := by decide +kernel
theorem xa_L_law_162 : xm_at xP 104 162 = some (162, .iaload, 0, 0, 0, 0) := by decide +kernel
theorem xa_L_law_163 : xm_at xP 104 163 = some (163, .aload_n 0, 0, 0, 0, 0) := by decide +kernel
theorem xa_L_law_164 : xm_at xP 104 164 = some (164, .iload 4, 0, 0, 0, 0) := by decide +kernel
theorem xa_L_law_166 : xm_at xP 104 166 = some (166, .iconst 2, 0, 0, 0, 0) := by decide +kernel
theorem xa_L_law_167 : xm_at xP 104 167 = some (167, .iadd, 0, 0, 0, 0) := by decide +kernel
theorem xa_L_law_168 : xm_at xP 104 168 = some (168, .iaload, 0, 0, 0, 0) := by decide +kernel
theorem xa_L_law_169 : xm_at xP 104 169 = some (169, .aload_n 0, 0, 0, 0, 0) := by decide +kernel
theorem xa_L_law_170 : xm_at xP 104 170 = some (170, .iload 4, 0, 0, 0, 0) := by decide +kernel
theorem xa_L_law_172 : xm_at xP 104 172 = some (172, .iconst 3, 0, 0, 0, 0) := by decide +kernel
theorem xa_L_law_173 : xm_at xP 104 173 = some (173, .iadd, 0, 0, 0, 0) := by decide +kernel
theorem xa_L_law_174 : xm_at xP 104 174 = some (174, .iaload, 0, 0, 0, 0) := by decide +kernel
theorem xa_L_law_175 : xm_at xP 104 175 = some (175, .aload_n 3, 0, 0, 0, 0) := by decide +kernel
theorem xa_L_law_176 : xm_at xP 104 176 = some (176, .invokestatic 81, 13, 5, 0, 0) := by decide +kernel
theorem xa_L_law_179 : xm_at xP 104 179 = some (179, .istore 5, 0, 0, 0, 0) := by decide +kernel
theorem xa_L_law_181 : xm_at xP 104 181 = some (181, .aload_n 2, 0, 0, 0, 0) := by decide +kernel
theorem xa_L_law_182 : xm_at xP 104 182 = some (182, .aload_n 0, 0, 0, 0, 0) := by decide +kernel
theorem xa_L_law_183 : xm_at xP 104 183 = some (183, .iload 4, 0, 0, 0, 0) := by decide +kernel
theorem xa_L_law_185 : xm_at xP 104 185 = some (185, .iconst 1, 0, 0, 0, 0) := by decide +kernel
theorem xa_L_law_186 : xm_at xP 104 186 = some (186, .iadd, 0, 0, 0, 0) := by decide +kernel
theorem xa_L_law_187 : xm_at xP 104 187 = some (187, .iaload, 0, 0, 0, 0) := by decide +kernel
theorem xa_L_law_188 : xm_at xP 104 188 = some (188, .aload_n 0, 0, 0, 0, 0) := by decide +kernel
theorem xa_L_law_189 : xm_at xP 104 189 = some (189, .iload 4, 0, 0, 0, 0) := by decide +kernel
theorem xa_L_law_191 : xm_at xP 104 191 = some (191, .iconst 2, 0, 0, 0, 0) := by decide +kernel
theorem xa_L_law_192 : xm_at xP 104 192 = some (192, .iadd, 0, 0, 0, 0) := by decide +kernel
theorem xa_L_law_193 : xm_at xP 104 193 = some (193, .iaload, 0, 0, 0, 0) := by decide +kernel
theorem xa_L_law_194 : xm_at xP 104 194 = some (194, .aload_n 0, 0, 0, 0, 0) := by decide +kernel
theorem xa_L_law_195 : xm_at xP 104 195 = some (195, .iload 4, 0, 0, 0, 0) := by decide +kernel
theorem xa_L_law_197 : xm_at xP 104 197 = some (197, .iconst 3, 0, 0, 0, 0) := by decide +kernel
theorem xa_L_law_198 : xm_at xP 104 198 = some (198, .iadd, 0, 0, 0, 0) := by decide +kernel
theorem xa_L_law_199 : xm_at xP 104 199 = some (199, .iaload, 0, 0, 0, 0) := by decide +kernel
theorem xa_L_law_200 : xm_at xP 104 200 = some (200, .invokevirtual 84, 71, 4, 3, 0) := by decide +kernel
theorem xa_L_law_203 : xm_at xP 104 203 = some (203, .istore 6, 0, 0, 0, 0) := by decide +kernel
theorem xa_L_law_205 : xm_at xP 104 205 = some (205, .aload_n 2, 0, 0, 0, 0) := by decide +kernel
theorem xa_L_law_206 : xm_at xP 104 206 = some (206, .invokevirtual 77, 69, 1, 3, 0) := by decide +kernel
theorem xa_L_law_209 : xm_at xP 104 209 = some (209, .iload 5, 0, 0, 0, 0) := by decide +kernel
theorem xa_L_law_211 : xm_at xP 104 211 = some (211, .if_icmp .eq 5, 216, 0, 0, 0) := by decide +kernel
theorem xa_L_law_214 : xm_at xP 104 214 = some (214, .iconst 0, 0, 0, 0, 0) := by decide +kernel
theorem xa_L_law_215 : xm_at xP 104 215 = some (215, .ireturn, 0, 0, 0, 1) := by decide +kernel
theorem xa_L_law_216 : xm_at xP 104 216 = some (216, .iload 5, 0, 0, 0, 0) := by decide +kernel
theorem xa_L_law_218 : xm_at xP 104 218 = some (218, .ifCond .ne 15, 233, 0, 0, 0) := by decide +kernel
theorem xa_L_law_221 : xm_at xP 104 221 = some (221, .aload_n 3, 0, 0, 0, 0) := by decide +kernel
theorem xa_L_law_222 : xm_at xP 104 222 = some (222, .iconst 0, 0, 0, 0, 0) := by decide +kernel
theorem xa_L_law_223 : xm_at xP 104 223 = some (223, .laload, 0, 0, 0, 0) := by decide +kernel
theorem xa_L_law_224 : xm_at xP 104 224 = some (224, .iload 6, 0, 0, 0, 0) := by decide +kernel
theorem xa_L_law_226 : xm_at xP 104 226 = some (226, .i2l, 0, 0, 0, 0) := by decide +kernel
theorem xa_L_law_227 : xm_at xP 104 227 = some (227, .lcmp, 0, 0, 0, 0) := by decide +kernel
theorem xa_L_law_228 : xm_at xP 104 228 = some (228, .ifCond .eq 5, 233, 0, 0, 0) := by decide +kernel
theorem xa_L_law_231 : xm_at xP 104 231 = some (231, .iconst 0, 0, 0, 0, 0) := by decide +kernel
theorem xa_L_law_232 : xm_at xP 104 232 = some (232, .ireturn, 0, 0, 0, 1) := by decide +kernel
theorem xa_L_law_233 : xm_at xP 104 233 = some (233, .goto 823, 1056, 0, 0, 0) := by decide +kernel
theorem xa_L_law_236 : xm_at xP 104 236 = some (236, .aload_n 1, 0, 0, 0, 0) := by decide +kernel
theorem xa_L_law_237 : xm_at xP 104 237 = some (237, .aload_n 0, 0, 0, 0, 0) := by decide +kernel
theorem xa_L_law_238 : xm_at xP 104 238 = some (238, .iload 4, 0, 0, 0, 0) := by decide +kernel
theorem xa_L_law_240 : xm_at xP 104 240 = some (240, .iconst 1, 0, 0, 0, 0) := by decide +kernel
theorem xa_L_law_241 : xm_at xP 104 241 = some (241, .iadd, 0, 0, 0, 0) := by decide +kernel
theorem xa_L_law_242 : xm_at xP 104 242 = some (242, .iaload, 0, 0, 0, 0) := by decide +kernel
theorem xa_L_law_243 : xm_at xP 104 243 = some (243, .aload_n 0, 0, 0, 0, 0) := by decide +kernel
theorem xa_L_law_244 : xm_at xP 104 244 = some (244, .iload 4, 0, 0, 0, 0) := by decide +kernel
theorem xa_L_law_246 : xm_at xP 104 246 = some (246, .iconst 2, 0, 0, 0, 0) := by decide +kernel
theorem xa_L_law_247 : xm_at xP 104 247 = some (247, .iadd, 0, 0, 0, 0) := by decide +kernel
theorem xa_L_law_248 : xm_at xP 104 248 = some (248, .iaload, 0, 0, 0, 0) := by decide +kernel
theorem xa_L_law_249 : xm_at xP 104 249 = some (249, .aload_n 0, 0, 0, 0, 0) := by decide +kernel
theorem xa_L_law_250 : xm_at xP 104 250 = some (250, .iload 4, 0, 0, 0, 0) := by decide +kernel
theorem xa_L_law_252 : xm_at xP 104 252 = some (252, .iconst 3, 0, 0, 0, 0) := by decide +kernel
theorem xa_L_law_253 : xm_at xP 104 253 = some (253, .iadd, 0, 0, 0, 0) := by decide +kernel
theorem xa_L_law_254 : xm_at xP 104 254 = some (254, .iaload, 0, 0, 0, 0) := by decide +kernel
theorem xa_L_law_255 : xm_at xP 104 255 = some (255, .ifCond .eq 7, 262, 0, 0, 0) := by decide +kernel
theorem xa_L_law_258 : xm_at xP 104 258 = some (258, .iconst 1, 0, 0, 0, 0) := by decide +kernel
theorem xa_L_law_259 : xm_at xP 104 259 = some (259, .goto 4, 263, 0, 0, 0) := by decide +kernel
theorem xa_L_law_262 : xm_at xP 104 262 = some (262, .iconst 0, 0, 0, 0, 0) := by decide +kernel
theorem xa_L_law_263 : xm_at xP 104 263 = some (263, .aload_n 3, 0, 0, 0, 0) := by decide +kernel
theorem xa_L_law_264 : xm_at xP 104 264 = some (264, .invokestatic 85, 17, 5, 0, 0) := by decide +kernel
theorem xa_L_law_267 : xm_at xP 104 267 = some (267, .istore 5, 0, 0, 0, 0) := by decide +kernel
theorem xa_L_law_269 : xm_at xP 104 269 = some (269, .aload_n 2, 0, 0, 0, 0) := by decide +kernel
theorem xa_L_law_270 : xm_at xP 104 270 = some (270, .aload_n 0, 0, 0, 0, 0) := by decide +kernel
theorem xa_L_law_271 : xm_at xP 104 271 = some (271, .iload 4, 0, 0, 0, 0) := by decide +kernel
theorem xa_L_law_273 : xm_at xP 104 273 = some (273, .iconst 1, 0, 0, 0, 0) := by decide +kernel
theorem xa_L_law_274 : xm_at xP 104 274 = some (274, .iadd, 0, 0, 0, 0) := by decide +kernel
theorem xa_L_law_275 : xm_at xP 104 275 = some (275, .iaload, 0, 0, 0, 0) := by decide +kernel
theorem xa_L_law_276 : xm_at xP 104 276 = some (276, .aload_n 0, 0, 0, 0, 0) := by decide +kernel
theorem xa_L_law_277 : xm_at xP 104 277 = some (277, .iload 4, 0, 0, 0, 0) := by decide +kernel
theorem xa_L_law_279 : xm_at xP 104 279 = some (279, .iconst 2, 0, 0, 0, 0) := by decide +kernel
theorem xa_L_law_280 : xm_at xP 104 280 = some (280, .iadd, 0, 0, 0, 0) := by decide +kernel
theorem xa_L_law_281 : xm_at xP 104 281 = some (281, .iaload, 0, 0, 0, 0) := by decide +kernel
theorem xa_L_law_282 : xm_at xP 104 282 = some (282, .aload_n 0, 0, 0, 0, 0) := by decide +kernel
theorem xa_L_law_283 : xm_at xP 104 283 = some (283, .iload 4, 0, 0, 0, 0) := by decide +kernel
theorem xa_L_law_285 : xm_at xP 104 285 = some (285, .iconst 3, 0, 0, 0, 0) := by decide +kernel
theorem xa_L_law_286 : xm_at xP 104 286 = some (286, .iadd, 0, 0, 0, 0) := by decide +kernel
theorem xa_L_law_287 : xm_at xP 104 287 = some (287, .iaload, 0, 0, 0, 0) := by decide +kernel
theorem xa_L_law_288 : xm_at xP 104 288 = some (288, .ifCond .eq 7, 295, 0, 0, 0) := by decide +kernel
theorem xa_L_law_291 : xm_at xP 104 291 = some (291, .iconst 1, 0, 0, 0, 0) := by decide +kernel
theorem xa_L_law_292 : xm_at xP 104 292 = some (292, .goto 4, 296, 0, 0, 0) := by decide +kernel
theorem xa_L_law_295 : xm_at xP 104 295 = some (295, .iconst 0, 0, 0, 0, 0) := by decide +kernel
theorem xa_L_law_296 : xm_at xP 104 296 = some (296, .invokevirtual 88, 73, 4, 3, 0) := by decide +kernel
theorem xa_L_law_299 : xm_at xP 104 299 = some (299, .istore 6, 0, 0, 0, 0) := by decide +kernel
theorem xa_L_law_301 : xm_at xP 104 301 = some (301, .aload_n 2, 0, 0, 0, 0) := by decide +kernel
theorem xa_L_law_302 : xm_at xP 104 302 = some (302, .invokevirtual 77, 69, 1, 3, 0) := by decide +kernel
theorem xa_L_law_305 : xm_at xP 104 305 = some (305, .iload 5, 0, 0, 0, 0) := by decide +kernel
theorem xa_L_law_307 : xm_at xP 104 307 = some (307, .if_icmp .eq 5, 312, 0, 0, 0) := by decide +kernel
theorem xa_L_law_310 : xm_at xP 104 310 = some (310, .iconst 0, 0, 0, 0, 0) := by decide +kernel
theorem xa_L_law_311 : xm_at xP 104 311 = some (311, .ireturn, 0, 0, 0, 1) := by decide +kernel
theorem xa_L_law_312 : xm_at xP 104 312 = some (312, .iload 5, 0, 0, 0, 0) := by decide +kernel
theorem xa_L_law_314 : xm_at xP 104 314 = some (314, .ifCond .ne 15, 329, 0, 0, 0) := by decide +kernel
theorem xa_L_law_317 : xm_at xP 104 317 = some (317, .aload_n 3, 0, 0, 0, 0) := by decide +kernel
theorem xa_L_law_318 : xm_at xP 104 318 = some (318, .iconst 0, 0, 0, 0, 0) := by decide +kernel
theorem xa_L_law_319 : xm_at xP 104 319 = some (319, .laload, 0, 0, 0, 0) := by decide +kernel
theorem xa_L_law_320 : xm_at xP 104 320 = some (320, .iload 6, 0, 0, 0, 0) := by decide +kernel
theorem xa_L_law_322 : xm_at xP 104 322 = some (322, .i2l, 0, 0, 0, 0) := by decide +kernel
theorem xa_L_law_323 : xm_at xP 104 323 = some (323, .lcmp, 0, 0, 0, 0) := by decide +kernel
theorem xa_L_law_324 : xm_at xP 104 324 = some (324, .ifCond .eq 5, 329, 0, 0, 0) := by decide +kernel
theorem xa_L_law_327 : xm_at xP 104 327 = some (327, .iconst 0, 0, 0, 0, 0) := by decide +kernel
theorem xa_L_law_328 : xm_at xP 104 328 = some (328, .ireturn, 0, 0, 0, 1) := by decide +kernel
theorem xa_L_law_329 : xm_at xP 104 329 = some (329, .goto 727, 1056, 0, 0, 0) := by decide +kernel
theorem xa_L_law_332 : xm_at xP 104 332 = some (332, .aload_n 1, 0, 0, 0, 0) := by decide +kernel
theorem xa_L_law_333 : xm_at xP 104 333 = some (333, .aload_n 0, 0, 0, 0, 0) := by decide +kernel
theorem xa_L_law_334 : xm_at xP 104 334 = some (334, .iload 4, 0, 0, 0, 0) := by decide +kernel
theorem xa_L_law_336 : xm_at xP 104 336 = some (336, .iconst 1, 0, 0, 0, 0) := by decide +kernel
theorem xa_L_law_337 : xm_at xP 104 337 = some (337, .iadd, 0, 0, 0, 0) := by decide +kernel
theorem xa_L_law_338 : xm_at xP 104 338 = some (338, .iaload, 0, 0, 0, 0) := by decide +kernel
theorem xa_L_law_339 : xm_at xP 104 339 = some (339, .invokestatic 89, 37, 2, 0, 0) := by decide +kernel
theorem xa_L_law_342 : xm_at xP 104 342 = some (342, .istore 5, 0, 0, 0, 0) := by decide +kernel
theorem xa_L_law_344 : xm_at xP 104 344 = some (344, .aload_n 2, 0, 0, 0, 0) := by decide +kernel
theorem xa_L_law_345 : xm_at xP 104 345 = some (345, .aload_n 0, 0, 0, 0, 0) := by decide +kernel
theorem xa_L_law_346 : xm_at xP 104 346 = some (346, .iload 4, 0, 0, 0, 0) := by decide +kernel
theorem xa_L_law_348 : xm_at xP 104 348 = some (348, .iconst 1, 0, 0, 0, 0) := by decide +kernel
theorem xa_L_law_349 : xm_at xP 104 349 = some (349, .iadd, 0, 0, 0, 0) := by decide +kernel
theorem xa_L_law_350 : xm_at xP 104 350 = some (350, .iaload, 0, 0, 0, 0) := by decide +kernel
theorem xa_L_law_351 : xm_at xP 104 351 = some (351, .invokevirtual 91, 86, 2, 3, 0) := by decide +kernel
theorem xa_L_law_354 : xm_at xP 104 354 = some (354, .aload_n 2, 0, 0, 0, 0) := by decide +kernel
theorem xa_L_law_355 : xm_at xP 104 355 = some (355, .invokevirtual 77, 69, 1, 3, 0) := by decide +kernel
theorem xa_L_law_358 : xm_at xP 104 358 = some (358, .iload 5, 0, 0, 0, 0) := by decide +kernel
theorem xa_L_law_360 : xm_at xP 104 360 = some (360, .if_icmp .eq 5, 365, 0, 0, 0) := by decide +kernel
theorem xa_L_law_363 : xm_at xP 104 363 = some (363, .iconst 0, 0, 0, 0, 0) := by decide +kernel
theorem xa_L_law_364 : xm_at xP 104 364 = some (364, .ireturn, 0, 0, 0, 1) := by decide +kernel
theorem xa_L_law_365 : xm_at xP 104 365 = some (365, .goto 691, 1056, 0, 0, 0) := by decide +kernel
theorem xa_L_law_368 : xm_at xP 104 368 = some (368, .aload_n 1, 0, 0, 0, 0) := by decide +kernel
theorem xa_L_law_369 : xm_at xP 104 369 = some (369, .aload_n 0, 0, 0, 0, 0) := by decide +kernel
theorem xa_L_law_370 : xm_at xP 104 370 = some (370, .iload 4, 0, 0, 0, 0) := by decide +kernel
theorem xa_L_law_372 : xm_at xP 104 372 = some (372, .iconst 1, 0, 0, 0, 0) := by decide +kernel
theorem xa_L_law_373 : xm_at xP 104 373 = some (373, .iadd, 0, 0, 0, 0) := by decide +kernel
theorem xa_L_law_374 : xm_at xP 104 374 = some (374, .iaload, 0, 0, 0, 0) := by decide +kernel
theorem xa_L_law_375 : xm_at xP 104 375 = some (375, .aload_n 0, 0, 0, 0, 0) := by decide +kernel
theorem xa_L_law_376 : xm_at xP 104 376 = some (376, .iload 4, 0, 0, 0, 0) := by decide +kernel
theorem xa_L_law_378 : xm_at xP 104 378 = some (378, .iconst 2, 0, 0, 0, 0) := by decide +kernel
theorem xa_L_law_379 : xm_at xP 104 379 = some (379, .iadd, 0, 0, 0, 0) := by decide +kernel
theorem xa_L_law_380 : xm_at xP 104 380 = some (380, .iaload, 0, 0, 0, 0) := by decide +kernel
theorem xa_L_law_381 : xm_at xP 104 381 = some (381, .ifCond .eq 7, 388, 0, 0, 0) := by decide +kernel
theorem xa_L_law_384 : xm_at xP 104 384 = some (384, .iconst 1, 0, 0, 0, 0) := by decide +kernel
theorem xa_L_law_385 : xm_at xP 104 385 = some (385, .goto 4, 389, 0, 0, 0) := by decide +kernel
theorem xa_L_law_388 : xm_at xP 104 388 = some (388, .iconst 0, 0, 0, 0, 0) := by decide +kernel
theorem xa_L_law_389 : xm_at xP 104 389 = some (389, .invokestatic 92, 40, 3, 0, 0) := by decide +kernel
theorem xa_L_law_392 : xm_at xP 104 392 = some (392, .istore 5, 0, 0, 0, 0) := by decide +kernel
theorem xa_L_law_394 : xm_at xP 104 394 = some (394, .aload_n 2, 0, 0, 0, 0) := by decide +kernel
theorem xa_L_law_395 : xm_at xP 104 395 = some (395, .aload_n 0, 0, 0, 0, 0) := by decide +kernel
theorem xa_L_law_396 : xm_at xP 104 396 = some (396, .iload 4, 0, 0, 0, 0) := by decide +kernel
theorem xa_L_law_398 : xm_at xP 104 398 = some (398, .iconst 1, 0, 0, 0, 0) := by decide +kernel
theorem xa_L_law_399 : xm_at xP 104 399 = some (399, .iadd, 0, 0, 0, 0) := by decide +kernel
theorem xa_L_law_400 : xm_at xP 104 400 = some (400, .iaload, 0, 0, 0, 0) := by decide +kernel
theorem xa_L_law_401 : xm_at xP 104 401 = some (401, .aload_n 0, 0, 0, 0, 0) := by decide +kernel
theorem xa_L_law_402 : xm_at xP 104 402 = some (402, .iload 4, 0, 0, 0, 0) := by decide +kernel
theorem xa_L_law_404 : xm_at xP 104 404 = some (404, .iconst 2, 0, 0, 0, 0) := by decide +kernel
theorem xa_L_law_405 : xm_at xP 104 405 = some (405, .iadd, 0, 0, 0, 0) := by decide +kernel
theorem xa_L_law_406 : xm_at xP 104 406 = some (406, .iaload, 0, 0, 0, 0) := by decide +kernel
theorem xa_L_law_407 : xm_at xP 104 407 = some (407, .ifCond .eq 7, 414, 0, 0, 0) := by decide +kernel
theorem xa_L_law_410 : xm_at xP 104 410 = some (410, .iconst 1, 0, 0, 0, 0) := by decide +kernel
theorem xa_L_law_411 : xm_at xP 104 411 = some (411, .goto 4, 415, 0, 0, 0) := by decide +kernel
theorem xa_L_law_414 : xm_at xP 104 414 = some (414, .iconst 0, 0, 0, 0, 0) := by decide +kernel
theorem xa_L_law_415 : xm_at xP 104 415 = some (415, .invokevirtual 95, 88, 3, 3, 0) := by decide +kernel
theorem xa_L_law_418 : xm_at xP 104 418 = some (418, .aload_n 2, 0, 0, 0, 0) := by decide +kernel
theorem xa_L_law_419 : xm_at xP 104 419 = some (419, .invokevirtual 77, 69, 1, 3, 0) := by decide +kernel
theorem xa_L_law_422 : xm_at xP 104 422 = some (422, .iload 5, 0, 0, 0, 0) := by decide +kernel
theorem xa_L_law_424 : xm_at xP 104 424 = some (424, .if_icmp .eq 5, 429, 0, 0, 0) := by decide +kernel
theorem xa_L_law_427 : xm_at xP 104 427 = some (427, .iconst 0, 0, 0, 0, 0) := by decide +kernel
theorem xa_L_law_428 : xm_at xP 104 428 = some (428, .ireturn, 0, 0, 0, 1) := by decide +kernel
theorem xa_L_law_429 : xm_at xP 104 429 = some (429, .goto 627, 1056, 0, 0, 0) := by decide +kernel
theorem xa_L_law_432 : xm_at xP 104 432 = some (432, .aload_n 1, 0, 0, 0, 0) := by decide +kernel
theorem xa_L_law_433 : xm_at xP 104 433 = some (433, .aload_n 0, 0, 0, 0, 0) := by decide +kernel
theorem xa_L_law_434 : xm_at xP 104 434 = some (434, .iload 4, 0, 0, 0, 0) := by decide +kernel
theorem xa_L_law_436 : xm_at xP 104 436 = some (436, .iconst 1, 0, 0, 0, 0) := by decide +kernel
theorem xa_L_law_437 : xm_at xP 104 437 = some (437, .iadd, 0, 0, 0, 0) := by decide +kernel
theorem xa_L_law_438 : xm_at xP 104 438 = some (438, .iaload, 0, 0, 0, 0) := by decide +kernel
theorem xa_L_law_439 : xm_at xP 104 439 = some (439, .invokestatic 96, 43, 2, 0, 0) := by decide +kernel
theorem xa_L_law_442 : xm_at xP 104 442 = some (442, .istore 5, 0, 0, 0, 0) := by decide +kernel
theorem xa_L_law_444 : xm_at xP 104 444 = some (444, .aload_n 2, 0, 0, 0, 0) := by decide +kernel
theorem xa_L_law_445 : xm_at xP 104 445 = some (445, .aload_n 0, 0, 0, 0, 0) := by decide +kernel
theorem xa_L_law_446 : xm_at xP 104 446 = some (446, .iload 4, 0, 0, 0, 0) := by decide +kernel
theorem xa_L_law_448 : xm_at xP 104 448 = some (448, .iconst 1, 0, 0, 0, 0) := by decide +kernel
theorem xa_L_law_449 : xm_at xP 104 449 = some (449, .iadd, 0, 0, 0, 0) := by decide +kernel
theorem xa_L_law_450 : xm_at xP 104 450 = some (450, .iaload, 0, 0, 0, 0) := by decide +kernel
theorem xa_L_law_451 : xm_at xP 104 451 = some (451, .invokevirtual 98, 90, 2, 3, 0) := by decide +kernel
theorem xa_L_law_454 : xm_at xP 104 454 = some (454, .aload_n 2, 0, 0, 0, 0) := by decide +kernel
theorem xa_L_law_455 : xm_at xP 104 455 = some (455, .invokevirtual 77, 69, 1, 3, 0) := by decide +kernel
theorem xa_L_law_458 : xm_at xP 104 458 = some (458, .iload 5, 0, 0, 0, 0) := by decide +kernel
theorem xa_L_law_460 : xm_at xP 104 460 = some (460, .if_icmp .eq 5, 465, 0, 0, 0) := by decide +kernel
theorem xa_L_law_463 : xm_at xP 104 463 = some (463, .iconst 0, 0, 0, 0, 0) := by decide +kernel
theorem xa_L_law_464 : xm_at xP 104 464 = some (464, .ireturn, 0, 0, 0, 1) := by decide +kernel
theorem xa_L_law_465 : xm_at xP 104 465 = some (465, .goto 591, 1056, 0, 0, 0) := by decide +kernel
theorem xa_L_law_468 : xm_at xP 104 468 = some (468, .aload_n 1, 0, 0, 0, 0) := by decide +kernel
theorem xa_L_law_469 : xm_at xP 104 469 = some (469, .aload_n 0, 0, 0, 0, 0) := by decide +kernel
theorem xa_L_law_470 : xm_at xP 104 470 = some (470, .iload 4, 0, 0, 0, 0) := by decide +kernel
theorem xa_L_law_472 : xm_at xP 104 472 = some (472, .iconst 1, 0, 0, 0, 0) := by decide +kernel
theorem xa_L_law_473 : xm_at xP 104 473 = some (473, .iadd, 0, 0, 0, 0) := by decide +kernel
theorem xa_L_law_474 : xm_at xP 104 474 = some (474, .iaload, 0, 0, 0, 0) := by decide +kernel
theorem xa_L_law_475 : xm_at xP 104 475 = some (475, .invokestatic 99, 45, 2, 0, 0) := by decide +kernel
theorem xa_L_law_478 : xm_at xP 104 478 = some (478, .istore 5, 0, 0, 0, 0) := by decide +kernel
theorem xa_L_law_480 : xm_at xP 104 480 = some (480, .aload_n 2, 0, 0, 0, 0) := by decide +kernel
theorem xa_L_law_481 : xm_at xP 104 481 = some (481, .aload_n 0, 0, 0, 0, 0) := by decide +kernel
theorem xa_L_law_482 : xm_at xP 104 482 = some (482, .iload 4, 0, 0, 0, 0) := by decide +kernel
theorem xa_L_law_484 : xm_at xP 104 484 = some (484, .iconst 1, 0, 0, 0, 0) := by decide +kernel
theorem xa_L_law_485 : xm_at xP 104 485 = some (485, .iadd, 0, 0, 0, 0) := by decide +kernel
theorem xa_L_law_486 : xm_at xP 104 486 = some (486, .iaload, 0, 0, 0, 0) := by decide +kernel
theorem xa_L_law_487 : xm_at xP 104 487 = some (487, .invokevirtual 101, 93, 2, 3, 0) := by decide +kernel
theorem xa_L_law_490 : xm_at xP 104 490 = some (490, .aload_n 2, 0, 0, 0, 0) := by decide +kernel
theorem xa_L_law_491 : xm_at xP 104 491 = some (491, .invokevirtual 77, 69, 1, 3, 0) := by decide +kernel
theorem xa_L_law_494 : xm_at xP 104 494 = some (494, .iload 5, 0, 0, 0, 0) := by decide +kernel
theorem xa_L_law_496 : xm_at xP 104 496 = some (496, .if_icmp .eq 5, 501, 0, 0, 0) := by decide +kernel
theorem xa_L_law_499 : xm_at xP 104 499 = some (499, .iconst 0, 0, 0, 0, 0) := by decide +kernel
theorem xa_L_law_500 : xm_at xP 104 500 = some (500, .ireturn, 0, 0, 0, 1) := by decide +kernel
theorem xa_L_law_501 : xm_at xP 104 501 = some (501, .goto 555, 1056, 0, 0, 0) := by decide +kernel
theorem xa_L_law_504 : xm_at xP 104 504 = some (504, .aload_n 1, 0, 0, 0, 0) := by decide +kernel
theorem xa_L_law_505 : xm_at xP 104 505 = some (505, .aload_n 0, 0, 0, 0, 0) := by decide +kernel
theorem xa_L_law_506 : xm_at xP 104 506 = some (506, .iload 4, 0, 0, 0, 0) := by decide +kernel
theorem xa_L_law_508 : xm_at xP 104 508 = some (508, .iconst 1, 0, 0, 0, 0) := by decide +kernel
theorem xa_L_law_509 : xm_at xP 104 509 = some (509, .iadd, 0, 0, 0, 0) := by decide +kernel
theorem xa_L_law_510 : xm_at xP 104 510 = some (510, .iaload, 0, 0, 0, 0) := by decide +kernel
theorem xa_L_law_511 : xm_at xP 104 511 = some (511, .invokestatic 102, 47, 2, 0, 0) := by decide +kernel
theorem xa_L_law_514 : xm_at xP 104 514 = some (514, .istore 5, 0, 0, 0, 0) := by decide +kernel
theorem xa_L_law_516 : xm_at xP 104 516 = some (516, .aload_n 2, 0, 0, 0, 0) := by decide +kernel
theorem xa_L_law_517 : xm_at xP 104 517 = some (517, .aload_n 0, 0, 0, 0, 0) := by decide +kernel
theorem xa_L_law_518 : xm_at xP 104 518 = some (518, .iload 4, 0, 0, 0, 0) := by decide +kernel
theorem xa_L_law_520 : xm_at xP 104 520 = some (520, .iconst 1, 0, 0, 0, 0) := by decide +kernel
theorem xa_L_law_521 : xm_at xP 104 521 = some (521, .iadd, 0, 0, 0, 0) := by decide +kernel
theorem xa_L_law_522 : xm_at xP 104 522 = some (522, .iaload, 0, 0, 0, 0) := by decide +kernel
theorem xa_L_law_523 : xm_at xP 104 523 = some (523, .invokevirtual 104, 94, 2, 3, 0) := by decide +kernel
theorem xa_L_law_526 : xm_at xP 104 526 = some (526, .aload_n 2, 0, 0, 0, 0) := by decide +kernel
theorem xa_L_law_527 : xm_at xP 104 527 = some (527, .invokevirtual 77, 69, 1, 3, 0) := by decide +kernel
theorem xa_L_law_530 : xm_at xP 104 530 = some (530, .iload 5, 0, 0, 0, 0) := by decide +kernel
theorem xa_L_law_532 : xm_at xP 104 532 = some (532, .if_icmp .eq 5, 537, 0, 0, 0) := by decide +kernel
theorem xa_L_law_535 : xm_at xP 104 535 = some (535, .iconst 0, 0, 0, 0, 0) := by decide +kernel
theorem xa_L_law_536 : xm_at xP 104 536 = some (536, .ireturn, 0, 0, 0, 1) := by decide +kernel
theorem xa_L_law_537 : xm_at xP 104 537 = some (537, .goto 519, 1056, 0, 0, 0) := by decide +kernel
theorem xa_L_law_540 : xm_at xP 104 540 = some (540, .aload_n 1, 0, 0, 0, 0) := by decide +kernel
theorem xa_L_law_541 : xm_at xP 104 541 = some (541, .invokevirtual 105, 3, 1, 2, 0) := by decide +kernel
theorem xa_L_law_544 : xm_at xP 104 544 = some (544, .aload_n 2, 0, 0, 0, 0) := by decide +kernel
theorem xa_L_law_545 : xm_at xP 104 545 = some (545, .invokevirtual 108, 95, 1, 3, 0) := by decide +kernel
theorem xa_L_law_548 : xm_at xP 104 548 = some (548, .goto 508, 1056, 0, 0, 0) := by decide +kernel
theorem xa_L_law_551 : xm_at xP 104 551 = some (551, .aload_n 1, 0, 0, 0, 0) := by decide +kernel
theorem xa_L_law_552 : xm_at xP 104 552 = some (552, .aload_n 0, 0, 0, 0, 0) := by decide +kernel
theorem xa_L_law_553 : xm_at xP 104 553 = some (553, .iload 4, 0, 0, 0, 0) := by decide +kernel
theorem xa_L_law_555 : xm_at xP 104 555 = some (555, .iconst 1, 0, 0, 0, 0) := by decide +kernel
theorem xa_L_law_556 : xm_at xP 104 556 = some (556, .iadd, 0, 0, 0, 0) := by decide +kernel
theorem xa_L_law_557 : xm_at xP 104 557 = some (557, .iaload, 0, 0, 0, 0) := by decide +kernel
theorem xa_L_law_558 : xm_at xP 104 558 = some (558, .aload_n 0, 0, 0, 0, 0) := by decide +kernel
theorem xa_L_law_559 : xm_at xP 104 559 = some (559, .iload 4, 0, 0, 0, 0) := by decide +kernel
theorem xa_L_law_561 : xm_at xP 104 561 = some (561, .iconst 2, 0, 0, 0, 0) := by decide +kernel
theorem xa_L_law_562 : xm_at xP 104 562 = some (562, .iadd, 0, 0, 0, 0) := by decide +kernel
theorem xa_L_law_563 : xm_at xP 104 563 = some (563, .iaload, 0, 0, 0, 0) := by decide +kernel
theorem xa_L_law_564 : xm_at xP 104 564 = some (564, .ifCond .eq 7, 571, 0, 0, 0) := by decide +kernel
theorem xa_L_law_567 : xm_at xP 104 567 = some (567, .iconst 1, 0, 0, 0, 0) := by decide +kernel
theorem xa_L_law_568 : xm_at xP 104 568 = some (568, .goto 4, 572, 0, 0, 0) := by decide +kernel
theorem xa_L_law_571 : xm_at xP 104 571 = some (571, .iconst 0, 0, 0, 0, 0) := by decide +kernel
theorem xa_L_law_572 : xm_at xP 104 572 = some (572, .aload_n 0, 0, 0, 0, 0) := by decide +kernel
theorem xa_L_law_573 : xm_at xP 104 573 = some (573, .iload 4, 0, 0, 0, 0) := by decide +kernel
theorem xa_L_law_575 : xm_at xP 104 575 = some (575, .iconst 3, 0, 0, 0, 0) := by decide +kernel
theorem xa_L_law_576 : xm_at xP 104 576 = some (576, .iadd, 0, 0, 0, 0) := by decide +kernel
theorem xa_L_law_577 : xm_at xP 104 577 = some (577, .iaload, 0, 0, 0, 0) := by decide +kernel
theorem xa_L_law_578 : xm_at xP 104 578 = some (578, .aload_n 3, 0, 0, 0, 0) := by decide +kernel
theorem xa_L_law_579 : xm_at xP 104 579 = some (579, .invokestatic 109, 49, 5, 0, 0) := by decide +kernel
theorem xa_L_law_582 : xm_at xP 104 582 = some (582, .istore 5, 0, 0, 0, 0) := by decide +kernel
theorem xa_L_law_584 : xm_at xP 104 584 = some (584, .aload_n 2, 0, 0, 0, 0) := by decide +kernel
theorem xa_L_law_585 : xm_at xP 104 585 = some (585, .aload_n 0, 0, 0, 0, 0) := by decide +kernel
theorem xa_L_law_586 : xm_at xP 104 586 = some (586, .iload 4, 0, 0, 0, 0) := by decide +kernel
theorem xa_L_law_588 : xm_at xP 104 588 = some (588, .iconst 1, 0, 0, 0, 0) := by decide +kernel
theorem xa_L_law_589 : xm_at xP 104 589 = some (589, .iadd, 0, 0, 0, 0) := by decide +kernel
theorem xa_L_law_590 : xm_at xP 104 590 = some (590, .iaload, 0, 0, 0, 0) := by decide +kernel
theorem xa_L_law_591 : xm_at xP 104 591 = some (591, .aload_n 0, 0, 0, 0, 0) := by decide +kernel
theorem xa_L_law_592 : xm_at xP 104 592 = some (592, .iload 4, 0, 0, 0, 0) := by decide +kernel
theorem xa_L_law_594 : xm_at xP 104 594 = some (594, .iconst 2, 0, 0, 0, 0) := by decide +kernel
theorem xa_L_law_595 : xm_at xP 104 595 = some (595, .iadd, 0, 0, 0, 0) := by decide +kernel
theorem xa_L_law_596 : xm_at xP 104 596 = some (596, .iaload, 0, 0, 0, 0) := by decide +kernel
theorem xa_L_law_597 : xm_at xP 104 597 = some (597, .ifCond .eq 7, 604, 0, 0, 0) := by decide +kernel
theorem xa_L_law_600 : xm_at xP 104 600 = some (600, .iconst 1, 0, 0, 0, 0) := by decide +kernel
theorem xa_L_law_601 : xm_at xP 104 601 = some (601, .goto 4, 605, 0, 0, 0) := by decide +kernel
theorem xa_L_law_604 : xm_at xP 104 604 = some (604, .iconst 0, 0, 0, 0, 0) := by decide +kernel
theorem xa_L_law_605 : xm_at xP 104 605 = some (605, .aload_n 0, 0, 0, 0, 0) := by decide +kernel
theorem xa_L_law_606 : xm_at xP 104 606 = some (606, .iload 4, 0, 0, 0, 0) := by decide +kernel
theorem xa_L_law_608 : xm_at xP 104 608 = some (608, .iconst 3, 0, 0, 0, 0) := by decide +kernel
theorem xa_L_law_609 : xm_at xP 104 609 = some (609, .iadd, 0, 0, 0, 0) := by decide +kernel
theorem xa_L_law_610 : xm_at xP 104 610 = some (610, .iaload, 0, 0, 0, 0) := by decide +kernel
theorem xa_L_law_611 : xm_at xP 104 611 = some (611, .invokevirtual 112, 97, 4, 3, 0) := by decide +kernel
theorem xa_L_law_614 : xm_at xP 104 614 = some (614, .istore 6, 0, 0, 0, 0) := by decide +kernel
theorem xa_L_law_616 : xm_at xP 104 616 = some (616, .aload_n 2, 0, 0, 0, 0) := by decide +kernel
theorem xa_L_law_617 : xm_at xP 104 617 = some (617, .invokevirtual 77, 69, 1, 3, 0) := by decide +kernel
theorem xa_L_law_620 : xm_at xP 104 620 = some (620, .iload 5, 0, 0, 0, 0) := by decide +kernel
theorem xa_L_law_622 : xm_at xP 104 622 = some (622, .if_icmp .eq 5, 627, 0, 0, 0) := by decide +kernel
theorem xa_L_law_625 : xm_at xP 104 625 = some (625, .iconst 0, 0, 0, 0, 0) := by decide +kernel
theorem xa_L_law_626 : xm_at xP 104 626 = some (626, .ireturn, 0, 0, 0, 1) := by decide +kernel
theorem xa_L_law_627 : xm_at xP 104 627 = some (627, .iload 5, 0, 0, 0, 0) := by decide +kernel
theorem xa_L_law_629 : xm_at xP 104 629 = some (629, .ifCond .ne 15, 644, 0, 0, 0) := by decide +kernel
theorem xa_L_law_632 : xm_at xP 104 632 = some (632, .aload_n 3, 0, 0, 0, 0) := by decide +kernel
theorem xa_L_law_633 : xm_at xP 104 633 = some (633, .iconst 0, 0, 0, 0, 0) := by decide +kernel
theorem xa_L_law_634 : xm_at xP 104 634 = some (634, .laload, 0, 0, 0, 0) := by decide +kernel
theorem xa_L_law_635 : xm_at xP 104 635 = some (635, .iload 6, 0, 0, 0, 0) := by decide +kernel
theorem xa_L_law_637 : xm_at xP 104 637 = some (637, .i2l, 0, 0, 0, 0) := by decide +kernel
theorem xa_L_law_638 : xm_at xP 104 638 = some (638, .lcmp, 0, 0, 0, 0) := by decide +kernel
theorem xa_L_law_639 : xm_at xP 104 639 = some (639, .ifCond .eq 5, 644, 0, 0, 0) := by decide +kernel
theorem xa_L_law_642 : xm_at xP 104 642 = some (642, .iconst 0, 0, 0, 0, 0) := by decide +kernel
theorem xa_L_law_643 : xm_at xP 104 643 = some (643, .ireturn, 0, 0, 0, 1) := by decide +kernel
theorem xa_L_law_644 : xm_at xP 104 644 = some (644, .goto 412, 1056, 0, 0, 0) := by decide +kernel
theorem xa_L_law_647 : xm_at xP 104 647 = some (647, .aload_n 1, 0, 0, 0, 0) := by decide +kernel
theorem xa_L_law_648 : xm_at xP 104 648 = some (648, .aload_n 0, 0, 0, 0, 0) := by decide +kernel
theorem xa_L_law_649 : xm_at xP 104 649 = some (649, .iload 4, 0, 0, 0, 0) := by decide +kernel
theorem xa_L_law_651 : xm_at xP 104 651 = some (651, .iconst 1, 0, 0, 0, 0) := by decide +kernel
theorem xa_L_law_652 : xm_at xP 104 652 = some (652, .iadd, 0, 0, 0, 0) := by decide +kernel
theorem xa_L_law_653 : xm_at xP 104 653 = some (653, .iaload, 0, 0, 0, 0) := by decide +kernel
theorem xa_L_law_654 : xm_at xP 104 654 = some (654, .aload_n 0, 0, 0, 0, 0) := by decide +kernel
theorem xa_L_law_655 : xm_at xP 104 655 = some (655, .iload 4, 0, 0, 0, 0) := by decide +kernel
theorem xa_L_law_657 : xm_at xP 104 657 = some (657, .iconst 2, 0, 0, 0, 0) := by decide +kernel
theorem xa_L_law_658 : xm_at xP 104 658 = some (658, .iadd, 0, 0, 0, 0) := by decide +kernel
theorem xa_L_law_659 : xm_at xP 104 659 = some (659, .iaload, 0, 0, 0, 0) := by decide +kernel
theorem xa_L_law_660 : xm_at xP 104 660 = some (660, .aload_n 3, 0, 0, 0, 0) := by decide +kernel
theorem xa_L_law_661 : xm_at xP 104 661 = some (661, .invokestatic 113, 53, 4, 0, 0) := by decide +kernel
theorem xa_L_law_664 : xm_at xP 104 664 = some (664, .istore 5, 0, 0, 0, 0) := by decide +kernel
theorem xa_L_law_666 : xm_at xP 104 666 = some (666, .aload_n 2, 0, 0, 0, 0) := by decide +kernel
theorem xa_L_law_667 : xm_at xP 104 667 = some (667, .aload_n 0, 0, 0, 0, 0) := by decide +kernel
theorem xa_L_law_668 : xm_at xP 104 668 = some (668, .iload 4, 0, 0, 0, 0) := by decide +kernel
theorem xa_L_law_670 : xm_at xP 104 670 = some (670, .iconst 1, 0, 0, 0, 0) := by decide +kernel
theorem xa_L_law_671 : xm_at xP 104 671 = some (671, .iadd, 0, 0, 0, 0) := by decide +kernel
theorem xa_L_law_672 : xm_at xP 104 672 = some (672, .iaload, 0, 0, 0, 0) := by decide +kernel
theorem xa_L_law_673 : xm_at xP 104 673 = some (673, .aload_n 0, 0, 0, 0, 0) := by decide +kernel
theorem xa_L_law_674 : xm_at xP 104 674 = some (674, .iload 4, 0, 0, 0, 0) := by decide +kernel
theorem xa_L_law_676 : xm_at xP 104 676 = some (676, .iconst 2, 0, 0, 0, 0) := by decide +kernel
theorem xa_L_law_677 : xm_at xP 104 677 = some (677, .iadd, 0, 0, 0, 0) := by decide +kernel
theorem xa_L_law_678 : xm_at xP 104 678 = some (678, .iaload, 0, 0, 0, 0) := by decide +kernel
theorem xa_L_law_679 : xm_at xP 104 679 = some (679, .invokevirtual 116, 98, 3, 3, 0) := by decide +kernel
theorem xa_L_law_682 : xm_at xP 104 682 = some (682, .istore 6, 0, 0, 0, 0) := by decide +kernel
theorem xa_L_law_684 : xm_at xP 104 684 = some (684, .aload_n 2, 0, 0, 0, 0) := by decide +kernel
theorem xa_L_law_685 : xm_at xP 104 685 = some (685, .invokevirtual 77, 69, 1, 3, 0) := by decide +kernel
theorem xa_L_law_688 : xm_at xP 104 688 = some (688, .iload 5, 0, 0, 0, 0) := by decide +kernel
theorem xa_L_law_690 : xm_at xP 104 690 = some (690, .if_icmp .eq 5, 695, 0, 0, 0) := by decide +kernel
theorem xa_L_law_693 : xm_at xP 104 693 = some (693, .iconst 0, 0, 0, 0, 0) := by decide +kernel
theorem xa_L_law_694 : xm_at xP 104 694 = some (694, .ireturn, 0, 0, 0, 1) := by decide +kernel
theorem xa_L_law_695 : xm_at xP 104 695 = some (695, .iload 5, 0, 0, 0, 0) := by decide +kernel
theorem xa_L_law_697 : xm_at xP 104 697 = some (697, .ifCond .ne 15, 712, 0, 0, 0) := by decide +kernel
theorem xa_L_law_700 : xm_at xP 104 700 = some (700, .aload_n 3, 0, 0, 0, 0) := by decide +kernel
theorem xa_L_law_701 : xm_at xP 104 701 = some (701, .iconst 0, 0, 0, 0, 0) := by decide +kernel
theorem xa_L_law_702 : xm_at xP 104 702 = some (702, .laload, 0, 0, 0, 0) := by decide +kernel
theorem xa_L_law_703 : xm_at xP 104 703 = some (703, .iload 6, 0, 0, 0, 0) := by decide +kernel
theorem xa_L_law_705 : xm_at xP 104 705 = some (705, .i2l, 0, 0, 0, 0) := by decide +kernel
theorem xa_L_law_706 : xm_at xP 104 706 = some (706, .lcmp, 0, 0, 0, 0) := by decide +kernel
theorem xa_L_law_707 : xm_at xP 104 707 = some (707, .ifCond .eq 5, 712, 0, 0, 0) := by decide +kernel
theorem xa_L_law_710 : xm_at xP 104 710 = some (710, .iconst 0, 0, 0, 0, 0) := by decide +kernel
theorem xa_L_law_711 : xm_at xP 104 711 = some (711, .ireturn, 0, 0, 0, 1) := by decide +kernel
theorem xa_L_law_712 : xm_at xP 104 712 = some (712, .goto 344, 1056, 0, 0, 0) := by decide +kernel
theorem xa_L_law_715 : xm_at xP 104 715 = some (715, .aload_n 1, 0, 0, 0, 0) := by decide +kernel
theorem xa_L_law_716 : xm_at xP 104 716 = some (716, .aload_n 0, 0, 0, 0, 0) := by decide +kernel
theorem xa_L_law_717 : xm_at xP 104 717 = some (717, .iload 4, 0, 0, 0, 0) := by decide +kernel
theorem xa_L_law_719 : xm_at xP 104 719 = some (719, .iconst 1, 0, 0, 0, 0) := by decide +kernel
theorem xa_L_law_720 : xm_at xP 104 720 = some (720, .iadd, 0, 0, 0, 0) := by decide +kernel
theorem xa_L_law_721 : xm_at xP 104 721 = some (721, .iaload, 0, 0, 0, 0) := by decide +kernel
theorem xa_L_law_722 : xm_at xP 104 722 = some (722, .aload_n 0, 0, 0, 0, 0) := by decide +kernel
theorem xa_L_law_723 : xm_at xP 104 723 = some (723, .iload 4, 0, 0, 0, 0) := by decide +kernel
theorem xa_L_law_725 : xm_at xP 104 725 = some (725, .iconst 2, 0, 0, 0, 0) := by decide +kernel
theorem xa_L_law_726 : xm_at xP 104 726 = some (726, .iadd, 0, 0, 0, 0) := by decide +kernel
theorem xa_L_law_727 : xm_at xP 104 727 = some (727, .iaload, 0, 0, 0, 0) := by decide +kernel
theorem xa_L_law_728 : xm_at xP 104 728 = some (728, .aload_n 3, 0, 0, 0, 0) := by decide +kernel
theorem xa_L_law_729 : xm_at xP 104 729 = some (729, .invokestatic 117, 56, 4, 0, 0) := by decide +kernel
theorem xa_L_law_732 : xm_at xP 104 732 = some (732, .istore 5, 0, 0, 0, 0) := by decide +kernel
theorem xa_L_law_734 : xm_at xP 104 734 = some (734, .aload_n 2, 0, 0, 0, 0) := by decide +kernel
theorem xa_L_law_735 : xm_at xP 104 735 = some (735, .aload_n 0, 0, 0, 0, 0) := by decide +kernel
theorem xa_L_law_736 : xm_at xP 104 736 = some (736, .iload 4, 0, 0, 0, 0) := by decide +kernel
theorem xa_L_law_738 : xm_at xP 104 738 = some (738, .iconst 1, 0, 0, 0, 0) := by decide +kernel
theorem xa_L_law_739 : xm_at xP 104 739 = some (739, .iadd, 0, 0, 0, 0) := by decide +kernel
theorem xa_L_law_740 : xm_at xP 104 740 = some (740, .iaload, 0, 0, 0, 0) := by decide +kernel
theorem xa_L_law_741 : xm_at xP 104 741 = some (741, .aload_n 0, 0, 0, 0, 0) := by decide +kernel
theorem xa_L_law_742 : xm_at xP 104 742 = some (742, .iload 4, 0, 0, 0, 0) := by decide +kernel
theorem xa_L_law_744 : xm_at xP 104 744 = some (744, .iconst 2, 0, 0, 0, 0) := by decide +kernel
theorem xa_L_law_745 : xm_at xP 104 745 = some (745, .iadd, 0, 0, 0, 0) := by decide +kernel
theorem xa_L_law_746 : xm_at xP 104 746 = some (746, .iaload, 0, 0, 0, 0) := by decide +kernel
theorem xa_L_law_747 : xm_at xP 104 747 = some (747, .invokevirtual 119, 99, 3, 3, 0) := by decide +kernel
theorem xa_L_law_750 : xm_at xP 104 750 = some (750, .istore 6, 0, 0, 0, 0) := by decide +kernel
theorem xa_L_law_752 : xm_at xP 104 752 = some (752, .aload_n 2, 0, 0, 0, 0) := by decide +kernel
theorem xa_L_law_753 : xm_at xP 104 753 = some (753, .invokevirtual 77, 69, 1, 3, 0) := by decide +kernel
theorem xa_L_law_756 : xm_at xP 104 756 = some (756, .iload 5, 0, 0, 0, 0) := by decide +kernel
theorem xa_L_law_758 : xm_at xP 104 758 = some (758, .if_icmp .eq 5, 763, 0, 0, 0) := by decide +kernel
theorem xa_L_law_761 : xm_at xP 104 761 = some (761, .iconst 0, 0, 0, 0, 0) := by decide +kernel
theorem xa_L_law_762 : xm_at xP 104 762 = some (762, .ireturn, 0, 0, 0, 1) := by decide +kernel
theorem xa_L_law_763 : xm_at xP 104 763 = some (763, .iload 5, 0, 0, 0, 0) := by decide +kernel
theorem xa_L_law_765 : xm_at xP 104 765 = some (765, .ifCond .ne 15, 780, 0, 0, 0) := by decide +kernel
theorem xa_L_law_768 : xm_at xP 104 768 = some (768, .aload_n 3, 0, 0, 0, 0) := by decide +kernel
theorem xa_L_law_769 : xm_at xP 104 769 = some (769, .iconst 0, 0, 0, 0, 0) := by decide +kernel
theorem xa_L_law_770 : xm_at xP 104 770 = some (770, .laload, 0, 0, 0, 0) := by decide +kernel
theorem xa_L_law_771 : xm_at xP 104 771 = some (771, .iload 6, 0, 0, 0, 0) := by decide +kernel
theorem xa_L_law_773 : xm_at xP 104 773 = some (773, .i2l, 0, 0, 0, 0) := by decide +kernel
theorem xa_L_law_774 : xm_at xP 104 774 = some (774, .lcmp, 0, 0, 0, 0) := by decide +kernel
theorem xa_L_law_775 : xm_at xP 104 775 = some (775, .ifCond .eq 5, 780, 0, 0, 0) := by decide +kernel
theorem xa_L_law_778 : xm_at xP 104 778 = some (778, .iconst 0, 0, 0, 0, 0) := by decide +kernel
theorem xa_L_law_779 : xm_at xP 104 779 = some (779, .ireturn, 0, 0, 0, 1) := by decide +kernel
theorem xa_L_law_780 : xm_at xP 104 780 = some (780, .goto 276, 1056, 0, 0, 0) := by decide +kernel
theorem xa_L_law_783 : xm_at xP 104 783 = some (783, .aload_n 1, 0, 0, 0, 0) := by decide +kernel
theorem xa_L_law_784 : xm_at xP 104 784 = some (784, .aload_n 0, 0, 0, 0, 0) := by decide +kernel
theorem xa_L_law_785 : xm_at xP 104 785 = some (785, .iload 4, 0, 0, 0, 0) := by decide +kernel
theorem xa_L_law_787 : xm_at xP 104 787 = some (787, .iconst 1, 0, 0, 0, 0) := by decide +kernel
theorem xa_L_law_788 : xm_at xP 104 788 = some (788, .iadd, 0, 0, 0, 0) := by decide +kernel
theorem xa_L_law_789 : xm_at xP 104 789 = some (789, .iaload, 0, 0, 0, 0) := by decide +kernel
theorem xa_L_law_790 : xm_at xP 104 790 = some (790, .aload_n 3, 0, 0, 0, 0) := by decide +kernel
theorem xa_L_law_791 : xm_at xP 104 791 = some (791, .invokestatic 120, 59, 3, 0, 0) := by decide +kernel
theorem xa_L_law_794 : xm_at xP 104 794 = some (794, .istore 5, 0, 0, 0, 0) := by decide +kernel
theorem xa_L_law_796 : xm_at xP 104 796 = some (796, .aload_n 2, 0, 0, 0, 0) := by decide +kernel
theorem xa_L_law_797 : xm_at xP 104 797 = some (797, .aload_n 0, 0, 0, 0, 0) := by decide +kernel
theorem xa_L_law_798 : xm_at xP 104 798 = some (798, .iload 4, 0, 0, 0, 0) := by decide +kernel
theorem xa_L_law_800 : xm_at xP 104 800 = some (800, .iconst 1, 0, 0, 0, 0) := by decide +kernel
theorem xa_L_law_801 : xm_at xP 104 801 = some (801, .iadd, 0, 0, 0, 0) := by decide +kernel
theorem xa_L_law_802 : xm_at xP 104 802 = some (802, .iaload, 0, 0, 0, 0) := by decide +kernel
theorem xa_L_law_803 : xm_at xP 104 803 = some (803, .invokevirtual 123, 96, 2, 3, 0) := by decide +kernel
theorem xa_L_law_806 : xm_at xP 104 806 = some (806, .istore 6, 0, 0, 0, 0) := by decide +kernel
theorem xa_L_law_808 : xm_at xP 104 808 = some (808, .aload_n 2, 0, 0, 0, 0) := by decide +kernel
theorem xa_L_law_809 : xm_at xP 104 809 = some (809, .invokevirtual 77, 69, 1, 3, 0) := by decide +kernel
theorem xa_L_law_812 : xm_at xP 104 812 = some (812, .iload 5, 0, 0, 0, 0) := by decide +kernel
theorem xa_L_law_814 : xm_at xP 104 814 = some (814, .if_icmp .eq 5, 819, 0, 0, 0) := by decide +kernel
theorem xa_L_law_817 : xm_at xP 104 817 = some (817, .iconst 0, 0, 0, 0, 0) := by decide +kernel
theorem xa_L_law_818 : xm_at xP 104 818 = some (818, .ireturn, 0, 0, 0, 1) := by decide +kernel
theorem xa_L_law_819 : xm_at xP 104 819 = some (819, .iload 5, 0, 0, 0, 0) := by decide +kernel
theorem xa_L_law_821 : xm_at xP 104 821 = some (821, .ifCond .ne 15, 836, 0, 0, 0) := by decide +kernel
theorem xa_L_law_824 : xm_at xP 104 824 = some (824, .aload_n 3, 0, 0, 0, 0) := by decide +kernel
theorem xa_L_law_825 : xm_at xP 104 825 = some (825, .iconst 0, 0, 0, 0, 0) := by decide +kernel
theorem xa_L_law_826 : xm_at xP 104 826 = some (826, .laload, 0, 0, 0, 0) := by decide +kernel
theorem xa_L_law_827 : xm_at xP 104 827 = some (827, .iload 6, 0, 0, 0, 0) := by decide +kernel
theorem xa_L_law_829 : xm_at xP 104 829 = some (829, .i2l, 0, 0, 0, 0) := by decide +kernel
theorem xa_L_law_830 : xm_at xP 104 830 = some (830, .lcmp, 0, 0, 0, 0) := by decide +kernel
theorem xa_L_law_831 : xm_at xP 104 831 = some (831, .ifCond .eq 5, 836, 0, 0, 0) := by decide +kernel
theorem xa_L_law_834 : xm_at xP 104 834 = some (834, .iconst 0, 0, 0, 0, 0) := by decide +kernel
theorem xa_L_law_835 : xm_at xP 104 835 = some (835, .ireturn, 0, 0, 0, 1) := by decide +kernel
theorem xa_L_law_836 : xm_at xP 104 836 = some (836, .goto 220, 1056, 0, 0, 0) := by decide +kernel
theorem xa_L_law_839 : xm_at xP 104 839 = some (839, .aload_n 1, 0, 0, 0, 0) := by decide +kernel
theorem xa_L_law_840 : xm_at xP 104 840 = some (840, .aload_n 0, 0, 0, 0, 0) := by decide +kernel
theorem xa_L_law_841 : xm_at xP 104 841 = some (841, .iload 4, 0, 0, 0, 0) := by decide +kernel
theorem xa_L_law_843 : xm_at xP 104 843 = some (843, .iconst 1, 0, 0, 0, 0) := by decide +kernel
theorem xa_L_law_844 : xm_at xP 104 844 = some (844, .iadd, 0, 0, 0, 0) := by decide +kernel
theorem xa_L_law_845 : xm_at xP 104 845 = some (845, .iaload, 0, 0, 0, 0) := by decide +kernel
theorem xa_L_law_846 : xm_at xP 104 846 = some (846, .aload_n 0, 0, 0, 0, 0) := by decide +kernel
theorem xa_L_law_847 : xm_at xP 104 847 = some (847, .iload 4, 0, 0, 0, 0) := by decide +kernel
theorem xa_L_law_849 : xm_at xP 104 849 = some (849, .iconst 2, 0, 0, 0, 0) := by decide +kernel
theorem xa_L_law_850 : xm_at xP 104 850 = some (850, .iadd, 0, 0, 0, 0) := by decide +kernel
theorem xa_L_law_851 : xm_at xP 104 851 = some (851, .iaload, 0, 0, 0, 0) := by decide +kernel
theorem xa_L_law_852 : xm_at xP 104 852 = some (852, .aload_n 3, 0, 0, 0, 0) := by decide +kernel
theorem xa_L_law_853 : xm_at xP 104 853 = some (853, .invokestatic 124, 61, 4, 0, 0) := by decide +kernel
theorem xa_L_law_856 : xm_at xP 104 856 = some (856, .istore 5, 0, 0, 0, 0) := by decide +kernel
theorem xa_L_law_858 : xm_at xP 104 858 = some (858, .aload_n 2, 0, 0, 0, 0) := by decide +kernel
theorem xa_L_law_859 : xm_at xP 104 859 = some (859, .aload_n 0, 0, 0, 0, 0) := by decide +kernel
theorem xa_L_law_860 : xm_at xP 104 860 = some (860, .iload 4, 0, 0, 0, 0) := by decide +kernel
theorem xa_L_law_862 : xm_at xP 104 862 = some (862, .iconst 1, 0, 0, 0, 0) := by decide +kernel
theorem xa_L_law_863 : xm_at xP 104 863 = some (863, .iadd, 0, 0, 0, 0) := by decide +kernel
theorem xa_L_law_864 : xm_at xP 104 864 = some (864, .iaload, 0, 0, 0, 0) := by decide +kernel
theorem xa_L_law_865 : xm_at xP 104 865 = some (865, .aload_n 0, 0, 0, 0, 0) := by decide +kernel
theorem xa_L_law_866 : xm_at xP 104 866 = some (866, .iload 4, 0, 0, 0, 0) := by decide +kernel
theorem xa_L_law_868 : xm_at xP 104 868 = some (868, .iconst 2, 0, 0, 0, 0) := by decide +kernel
theorem xa_L_law_869 : xm_at xP 104 869 = some (869, .iadd, 0, 0, 0, 0) := by decide +kernel
theorem xa_L_law_870 : xm_at xP 104 870 = some (870, .iaload, 0, 0, 0, 0) := by decide +kernel
theorem xa_L_law_871 : xm_at xP 104 871 = some (871, .invokevirtual 126, 100, 3, 3, 0) := by decide +kernel
theorem xa_L_law_874 : xm_at xP 104 874 = some (874, .istore 6, 0, 0, 0, 0) := by decide +kernel
theorem xa_L_law_876 : xm_at xP 104 876 = some (876, .aload_n 2, 0, 0, 0, 0) := by decide +kernel
theorem xa_L_law_877 : xm_at xP 104 877 = some (877, .invokevirtual 77, 69, 1, 3, 0) := by decide +kernel
theorem xa_L_law_880 : xm_at xP 104 880 = some (880, .iload 5, 0, 0, 0, 0) := by decide +kernel
theorem xa_L_law_882 : xm_at xP 104 882 = some (882, .if_icmp .eq 5, 887, 0, 0, 0) := by decide +kernel
theorem xa_L_law_885 : xm_at xP 104 885 = some (885, .iconst 0, 0, 0, 0, 0) := by decide +kernel
theorem xa_L_law_886 : xm_at xP 104 886 = some (886, .ireturn, 0, 0, 0, 1) := by decide +kernel
theorem xa_L_law_887 : xm_at xP 104 887 = some (887, .iload 5, 0, 0, 0, 0) := by decide +kernel
theorem xa_L_law_889 : xm_at xP 104 889 = some (889, .ifCond .ne 15, 904, 0, 0, 0) := by decide +kernel
theorem xa_L_law_892 : xm_at xP 104 892 = some (892, .aload_n 3, 0, 0, 0, 0) := by decide +kernel
theorem xa_L_law_893 : xm_at xP 104 893 = some (893, .iconst 0, 0, 0, 0, 0) := by decide +kernel
theorem xa_L_law_894 : xm_at xP 104 894 = some (894, .laload, 0, 0, 0, 0) := by decide +kernel
theorem xa_L_law_895 : xm_at xP 104 895 = some (895, .iload 6, 0, 0, 0, 0) := by decide +kernel
theorem xa_L_law_897 : xm_at xP 104 897 = some (897, .i2l, 0, 0, 0, 0) := by decide +kernel
theorem xa_L_law_898 : xm_at xP 104 898 = some (898, .lcmp, 0, 0, 0, 0) := by decide +kernel
theorem xa_L_law_899 : xm_at xP 104 899 = some (899, .ifCond .eq 5, 904, 0, 0, 0) := by decide +kernel
theorem xa_L_law_902 : xm_at xP 104 902 = some (902, .iconst 0, 0, 0, 0, 0) := by decide +kernel
theorem xa_L_law_903 : xm_at xP 104 903 = some (903, .ireturn, 0, 0, 0, 1) := by decide +kernel
theorem xa_L_law_904 : xm_at xP 104 904 = some (904, .goto 152, 1056, 0, 0, 0) := by decide +kernel
theorem xa_L_law_907 : xm_at xP 104 907 = some (907, .aload_n 1, 0, 0, 0, 0) := by decide +kernel
theorem xa_L_law_908 : xm_at xP 104 908 = some (908, .aload_n 0, 0, 0, 0, 0) := by decide +kernel
theorem xa_L_law_909 : xm_at xP 104 909 = some (909, .iload 4, 0, 0, 0, 0) := by decide +kernel
theorem xa_L_law_911 : xm_at xP 104 911 = some (911, .iconst 1, 0, 0, 0, 0) := by decide +kernel
theorem xa_L_law_912 : xm_at xP 104 912 = some (912, .iadd, 0, 0, 0, 0) := by decide +kernel
theorem xa_L_law_913 : xm_at xP 104 913 = some (913, .iaload, 0, 0, 0, 0) := by decide +kernel
theorem xa_L_law_914 : xm_at xP 104 914 = some (914, .aload_n 0, 0, 0, 0, 0) := by decide +kernel
theorem xa_L_law_915 : xm_at xP 104 915 = some (915, .iload 4, 0, 0, 0, 0) := by decide +kernel
theorem xa_L_law_917 : xm_at xP 104 917 = some (917, .iconst 2, 0, 0, 0, 0) := by decide +kernel
theorem xa_L_law_918 : xm_at xP 104 918 = some (918, .iadd, 0, 0, 0, 0) := by decide +kernel
theorem xa_L_law_919 : xm_at xP 104 919 = some (919, .iaload, 0, 0, 0, 0) := by decide +kernel
theorem xa_L_law_920 : xm_at xP 104 920 = some (920, .aload_n 0, 0, 0, 0, 0) := by decide +kernel
theorem xa_L_law_921 : xm_at xP 104 921 = some (921, .iload 4, 0, 0, 0, 0) := by decide +kernel
theorem xa_L_law_923 : xm_at xP 104 923 = some (923, .iconst 3, 0, 0, 0, 0) := by decide +kernel
theorem xa_L_law_924 : xm_at xP 104 924 = some (924, .iadd, 0, 0, 0, 0) := by decide +kernel
theorem xa_L_law_925 : xm_at xP 104 925 = some (925, .iaload, 0, 0, 0, 0) := by decide +kernel
theorem xa_L_law_926 : xm_at xP 104 926 = some (926, .aload_n 3, 0, 0, 0, 0) := by decide +kernel
theorem xa_L_law_927 : xm_at xP 104 927 = some (927, .invokestatic 127, 63, 5, 0, 0) := by decide +kernel
theorem xa_L_law_930 : xm_at xP 104 930 = some (930, .istore 5, 0, 0, 0, 0) := by decide +kernel
theorem xa_L_law_932 : xm_at xP 104 932 = some (932, .aload_n 2, 0, 0, 0, 0) := by decide +kernel
theorem xa_L_law_933 : xm_at xP 104 933 = some (933, .aload_n 0, 0, 0, 0, 0) := by decide +kernel
theorem xa_L_law_934 : xm_at xP 104 934 = some (934, .iload 4, 0, 0, 0, 0) := by decide +kernel
theorem xa_L_law_936 : xm_at xP 104 936 = some (936, .iconst 1, 0, 0, 0, 0) := by decide +kernel
theorem xa_L_law_937 : xm_at xP 104 937 = some (937, .iadd, 0, 0, 0, 0) := by decide +kernel
theorem xa_L_law_938 : xm_at xP 104 938 = some (938, .iaload, 0, 0, 0, 0) := by decide +kernel
theorem xa_L_law_939 : xm_at xP 104 939 = some (939, .aload_n 0, 0, 0, 0, 0) := by decide +kernel
theorem xa_L_law_940 : xm_at xP 104 940 = some (940, .iload 4, 0, 0, 0, 0) := by decide +kernel
theorem xa_L_law_942 : xm_at xP 104 942 = some (942, .iconst 2, 0, 0, 0, 0) := by decide +kernel
theorem xa_L_law_943 : xm_at xP 104 943 = some (943, .iadd, 0, 0, 0, 0) := by decide +kernel
theorem xa_L_law_944 : xm_at xP 104 944 = some (944, .iaload, 0, 0, 0, 0) := by decide +kernel
theorem xa_L_law_945 : xm_at xP 104 945 = some (945, .aload_n 0, 0, 0, 0, 0) := by decide +kernel
theorem xa_L_law_946 : xm_at xP 104 946 = some (946, .iload 4, 0, 0, 0, 0) := by decide +kernel
theorem xa_L_law_948 : xm_at xP 104 948 = some (948, .iconst 3, 0, 0, 0, 0) := by decide +kernel
theorem xa_L_law_949 : xm_at xP 104 949 = some (949, .iadd, 0, 0, 0, 0) := by decide +kernel
theorem xa_L_law_950 : xm_at xP 104 950 = some (950, .iaload, 0, 0, 0, 0) := by decide +kernel
theorem xa_L_law_951 : xm_at xP 104 951 = some (951, .invokevirtual 129, 101, 4, 3, 0) := by decide +kernel
theorem xa_L_law_954 : xm_at xP 104 954 = some (954, .istore 6, 0, 0, 0, 0) := by decide +kernel
theorem xa_L_law_956 : xm_at xP 104 956 = some (956, .aload_n 2, 0, 0, 0, 0) := by decide +kernel
theorem xa_L_law_957 : xm_at xP 104 957 = some (957, .invokevirtual 77, 69, 1, 3, 0) := by decide +kernel
theorem xa_L_law_960 : xm_at xP 104 960 = some (960, .iload 5, 0, 0, 0, 0) := by decide +kernel
theorem xa_L_law_962 : xm_at xP 104 962 = some (962, .if_icmp .eq 5, 967, 0, 0, 0) := by decide +kernel
theorem xa_L_law_965 : xm_at xP 104 965 = some (965, .iconst 0, 0, 0, 0, 0) := by decide +kernel
theorem xa_L_law_966 : xm_at xP 104 966 = some (966, .ireturn, 0, 0, 0, 1) := by decide +kernel
theorem xa_L_law_967 : xm_at xP 104 967 = some (967, .iload 5, 0, 0, 0, 0) := by decide +kernel
theorem xa_L_law_969 : xm_at xP 104 969 = some (969, .ifCond .ne 15, 984, 0, 0, 0) := by decide +kernel
theorem xa_L_law_972 : xm_at xP 104 972 = some (972, .aload_n 3, 0, 0, 0, 0) := by decide +kernel
theorem xa_L_law_973 : xm_at xP 104 973 = some (973, .iconst 0, 0, 0, 0, 0) := by decide +kernel
theorem xa_L_law_974 : xm_at xP 104 974 = some (974, .laload, 0, 0, 0, 0) := by decide +kernel
theorem xa_L_law_975 : xm_at xP 104 975 = some (975, .iload 6, 0, 0, 0, 0) := by decide +kernel
theorem xa_L_law_977 : xm_at xP 104 977 = some (977, .i2l, 0, 0, 0, 0) := by decide +kernel
theorem xa_L_law_978 : xm_at xP 104 978 = some (978, .lcmp, 0, 0, 0, 0) := by decide +kernel
theorem xa_L_law_979 : xm_at xP 104 979 = some (979, .ifCond .eq 5, 984, 0, 0, 0) := by decide +kernel
theorem xa_L_law_982 : xm_at xP 104 982 = some (982, .iconst 0, 0, 0, 0, 0) := by decide +kernel
theorem xa_L_law_983 : xm_at xP 104 983 = some (983, .ireturn, 0, 0, 0, 1) := by decide +kernel
theorem xa_L_law_984 : xm_at xP 104 984 = some (984, .goto 72, 1056, 0, 0, 0) := by decide +kernel
theorem xa_L_law_987 : xm_at xP 104 987 = some (987, .aload_n 1, 0, 0, 0, 0) := by decide +kernel
theorem xa_L_law_988 : xm_at xP 104 988 = some (988, .invokevirtual 130, 9, 1, 2, 0) := by decide +kernel
theorem xa_L_law_991 : xm_at xP 104 991 = some (991, .aload_n 2, 0, 0, 0, 0) := by decide +kernel
theorem xa_L_law_992 : xm_at xP 104 992 = some (992, .invokevirtual 133, 102, 1, 3, 0) := by decide +kernel
theorem xa_L_law_995 : xm_at xP 104 995 = some (995, .if_icmp .eq 61, 1056, 0, 0, 0) := by decide +kernel
theorem xa_L_law_998 : xm_at xP 104 998 = some (998, .iconst 0, 0, 0, 0, 0) := by decide +kernel
theorem xa_L_law_999 : xm_at xP 104 999 = some (999, .ireturn, 0, 0, 0, 1) := by decide +kernel
theorem xa_L_law_1000 : xm_at xP 104 1000 = some (1000, .aload_n 1, 0, 0, 0, 0) := by decide +kernel
theorem xa_L_law_1001 : xm_at xP 104 1001 = some (1001, .aload_n 0, 0, 0, 0, 0) := by decide +kernel
theorem xa_L_law_1002 : xm_at xP 104 1002 = some (1002, .iload 4, 0, 0, 0, 0) := by decide +kernel
theorem xa_L_law_1004 : xm_at xP 104 1004 = some (1004, .iconst 1, 0, 0, 0, 0) := by decide +kernel
theorem xa_L_law_1005 : xm_at xP 104 1005 = some (1005, .iadd, 0, 0, 0, 0) := by decide +kernel
theorem xa_L_law_1006 : xm_at xP 104 1006 = some (1006, .iaload, 0, 0, 0, 0) := by decide +kernel
theorem xa_L_law_1007 : xm_at xP 104 1007 = some (1007, .aload_n 3, 0, 0, 0, 0) := by decide +kernel
theorem xa_L_law_1008 : xm_at xP 104 1008 = some (1008, .invokestatic 134, 65, 3, 0, 0) := by decide +kernel
theorem xa_L_law_1011 : xm_at xP 104 1011 = some (1011, .istore 5, 0, 0, 0, 0) := by decide +kernel
theorem xa_L_law_1013 : xm_at xP 104 1013 = some (1013, .aload_n 2, 0, 0, 0, 0) := by decide +kernel
theorem xa_L_law_1014 : xm_at xP 104 1014 = some (1014, .aload_n 0, 0, 0, 0, 0) := by decide +kernel
theorem xa_L_law_1015 : xm_at xP 104 1015 = some (1015, .iload 4, 0, 0, 0, 0) := by decide +kernel
theorem xa_L_law_1017 : xm_at xP 104 1017 = some (1017, .iconst 1, 0, 0, 0, 0) := by decide +kernel
theorem xa_L_law_1018 : xm_at xP 104 1018 = some (1018, .iadd, 0, 0, 0, 0) := by decide +kernel
theorem xa_L_law_1019 : xm_at xP 104 1019 = some (1019, .iaload, 0, 0, 0, 0) := by decide +kernel
theorem xa_L_law_1020 : xm_at xP 104 1020 = some (1020, .invokevirtual 136, 103, 2, 3, 0) := by decide +kernel
theorem xa_L_law_1023 : xm_at xP 104 1023 = some (1023, .istore 6, 0, 0, 0, 0) := by decide +kernel
theorem xa_L_law_1025 : xm_at xP 104 1025 = some (1025, .aload_n 2, 0, 0, 0, 0) := by decide +kernel
theorem xa_L_law_1026 : xm_at xP 104 1026 = some (1026, .invokevirtual 77, 69, 1, 3, 0) := by decide +kernel
theorem xa_L_law_1029 : xm_at xP 104 1029 = some (1029, .iload 5, 0, 0, 0, 0) := by decide +kernel
theorem xa_L_law_1031 : xm_at xP 104 1031 = some (1031, .if_icmp .eq 5, 1036, 0, 0, 0) := by decide +kernel
theorem xa_L_law_1034 : xm_at xP 104 1034 = some (1034, .iconst 0, 0, 0, 0, 0) := by decide +kernel
theorem xa_L_law_1035 : xm_at xP 104 1035 = some (1035, .ireturn, 0, 0, 0, 1) := by decide +kernel
theorem xa_L_law_1036 : xm_at xP 104 1036 = some (1036, .iload 5, 0, 0, 0, 0) := by decide +kernel
theorem xa_L_law_1038 : xm_at xP 104 1038 = some (1038, .ifCond .ne 15, 1053, 0, 0, 0) := by decide +kernel
theorem xa_L_law_1041 : xm_at xP 104 1041 = some (1041, .aload_n 3, 0, 0, 0, 0) := by decide +kernel
theorem xa_L_law_1042 : xm_at xP 104 1042 = some (1042, .iconst 0, 0, 0, 0, 0) := by decide +kernel
theorem xa_L_law_1043 : xm_at xP 104 1043 = some (1043, .laload, 0, 0, 0, 0) := by decide +kernel
theorem xa_L_law_1044 : xm_at xP 104 1044 = some (1044, .iload 6, 0, 0, 0, 0) := by decide +kernel
theorem xa_L_law_1046 : xm_at xP 104 1046 = some (1046, .i2l, 0, 0, 0, 0) := by decide +kernel
theorem xa_L_law_1047 : xm_at xP 104 1047 = some (1047, .lcmp, 0, 0, 0, 0) := by decide +kernel
theorem xa_L_law_1048 : xm_at xP 104 1048 = some (1048, .ifCond .eq 5, 1053, 0, 0, 0) := by decide +kernel
theorem xa_L_law_1051 : xm_at xP 104 1051 = some (1051, .iconst 0, 0, 0, 0, 0) := by decide +kernel
theorem xa_L_law_1052 : xm_at xP 104 1052 = some (1052, .ireturn, 0, 0, 0, 1) := by decide +kernel
theorem xa_L_law_1053 : xm_at xP 104 1053 = some (1053, .goto 3, 1056, 0, 0, 0) := by decide +kernel
theorem xa_L_law_1056 : xm_at xP 104 1056 = some (1056, .iinc 4 4, 0, 0, 0, 0) := by decide +kernel
theorem xa_L_law_1059 : xm_at xP 104 1059 = some (1059, .goto (-1036), 23, 0, 0, 0) := by decide +kernel
theorem xa_L_law_1062 : xm_at xP 104 1062 = some (1062, .iconst 1, 0, 0, 0, 0) := by decide +kernel
theorem xa_L_law_1063 : xm_at xP 104 1063 = some (1063, .ireturn, 0, 0, 0, 1) := by decide +kernel
