/-! the law's code, row by row -/
def dkA (c : ByteArray) (l : List (Nat × (Instr × Nat))) : Bool := l.all fun q => eqd c q.1 q.2
theorem dkA_at {c : ByteArray} {l : List (Nat × (Instr × Nat))} (h : dkA c l = true) (i : Nat) {n : Nat} {r : Instr × Nat} (hq : l[i]? = some (n, r)) : decode c n = .ok r := eqd_ok (List.all_eq_true.mp h (n, r) (List.mem_of_getElem? hq))
theorem dL_law_33 : decode cL_law 33 = .ok (.tableswitch 1169 0 31 #[143, 186, 229, 252, 285, 308, 331, 344, 387, 410, 443, 466, 499, 552, 585, 608, 651, 684, 717, 750, 773, 806, 829, 862, 875, 908, 921, 934, 957, 1000, 1073, 1106], 143) := eqd_ok (by decide +kernel)
theorem dkA_0 : dkA cL_law [(0, (.new 7, 3)), (3, (.dup, 1)), (4, (.invokespecial 9, 3)), (7, (.astore_n 1, 1)), (8, (.new 10, 3)), (11, (.dup, 1)), (12, (.invokespecial 12, 3)), (15, (.astore_n 2, 1)), (16, (.iconst 0, 1)), (17, (.istore_n 3, 1)), (18, (.iload_n 3, 1)), (19, (.aload_n 0, 1)), (20, (.arraylength, 1)), (21, (.bipush 6, 2)), (23, (.isub, 1)), (24, (.if_icmp .gt 1184, 3))] = true := by decide +kernel
theorem dL_law_0 : decode cL_law 0 = .ok (.new 7, 3) := dkA_at dkA_0 0 rfl
theorem dL_law_3 : decode cL_law 3 = .ok (.dup, 1) := dkA_at dkA_0 1 rfl
theorem dL_law_4 : decode cL_law 4 = .ok (.invokespecial 9, 3) := dkA_at dkA_0 2 rfl
theorem dL_law_7 : decode cL_law 7 = .ok (.astore_n 1, 1) := dkA_at dkA_0 3 rfl
theorem dL_law_8 : decode cL_law 8 = .ok (.new 10, 3) := dkA_at dkA_0 4 rfl
theorem dL_law_11 : decode cL_law 11 = .ok (.dup, 1) := dkA_at dkA_0 5 rfl
theorem dL_law_12 : decode cL_law 12 = .ok (.invokespecial 12, 3) := dkA_at dkA_0 6 rfl
theorem dL_law_15 : decode cL_law 15 = .ok (.astore_n 2, 1) := dkA_at dkA_0 7 rfl
theorem dL_law_16 : decode cL_law 16 = .ok (.iconst 0, 1) := dkA_at dkA_0 8 rfl
theorem dL_law_17 : decode cL_law 17 = .ok (.istore_n 3, 1) := dkA_at dkA_0 9 rfl
theorem dL_law_18 : decode cL_law 18 = .ok (.iload_n 3, 1) := dkA_at dkA_0 10 rfl
theorem dL_law_19 : decode cL_law 19 = .ok (.aload_n 0, 1) := dkA_at dkA_0 11 rfl
theorem dL_law_20 : decode cL_law 20 = .ok (.arraylength, 1) := dkA_at dkA_0 12 rfl
theorem dL_law_21 : decode cL_law 21 = .ok (.bipush 6, 2) := dkA_at dkA_0 13 rfl
theorem dL_law_23 : decode cL_law 23 = .ok (.isub, 1) := dkA_at dkA_0 14 rfl
theorem dL_law_24 : decode cL_law 24 = .ok (.if_icmp .gt 1184, 3) := dkA_at dkA_0 15 rfl
theorem dkA_1 : dkA cL_law [(27, (.aload_n 0, 1)), (28, (.iload_n 3, 1)), (29, (.iaload, 1)), (30, (.bipush 31, 2)), (32, (.iand, 1)), (176, (.aload_n 1, 1)), (177, (.aload_n 0, 1)), (178, (.iload_n 3, 1)), (179, (.iconst 1, 1)), (180, (.iadd, 1)), (181, (.iaload, 1)), (182, (.aload_n 0, 1)), (183, (.iload_n 3, 1)), (184, (.iconst 2, 1)), (185, (.iadd, 1)), (186, (.iaload, 1))] = true := by decide +kernel
theorem dL_law_27 : decode cL_law 27 = .ok (.aload_n 0, 1) := dkA_at dkA_1 0 rfl
theorem dL_law_28 : decode cL_law 28 = .ok (.iload_n 3, 1) := dkA_at dkA_1 1 rfl
theorem dL_law_29 : decode cL_law 29 = .ok (.iaload, 1) := dkA_at dkA_1 2 rfl
theorem dL_law_30 : decode cL_law 30 = .ok (.bipush 31, 2) := dkA_at dkA_1 3 rfl
theorem dL_law_32 : decode cL_law 32 = .ok (.iand, 1) := dkA_at dkA_1 4 rfl
theorem dL_law_176 : decode cL_law 176 = .ok (.aload_n 1, 1) := dkA_at dkA_1 5 rfl
theorem dL_law_177 : decode cL_law 177 = .ok (.aload_n 0, 1) := dkA_at dkA_1 6 rfl
theorem dL_law_178 : decode cL_law 178 = .ok (.iload_n 3, 1) := dkA_at dkA_1 7 rfl
theorem dL_law_179 : decode cL_law 179 = .ok (.iconst 1, 1) := dkA_at dkA_1 8 rfl
theorem dL_law_180 : decode cL_law 180 = .ok (.iadd, 1) := dkA_at dkA_1 9 rfl
theorem dL_law_181 : decode cL_law 181 = .ok (.iaload, 1) := dkA_at dkA_1 10 rfl
theorem dL_law_182 : decode cL_law 182 = .ok (.aload_n 0, 1) := dkA_at dkA_1 11 rfl
theorem dL_law_183 : decode cL_law 183 = .ok (.iload_n 3, 1) := dkA_at dkA_1 12 rfl
theorem dL_law_184 : decode cL_law 184 = .ok (.iconst 2, 1) := dkA_at dkA_1 13 rfl
theorem dL_law_185 : decode cL_law 185 = .ok (.iadd, 1) := dkA_at dkA_1 14 rfl
theorem dL_law_186 : decode cL_law 186 = .ok (.iaload, 1) := dkA_at dkA_1 15 rfl
theorem dkA_2 : dkA cL_law [(187, (.aload_n 0, 1)), (188, (.iload_n 3, 1)), (189, (.iconst 3, 1)), (190, (.iadd, 1)), (191, (.iaload, 1)), (192, (.invokevirtual 13, 3)), (195, (.pop, 1)), (196, (.aload_n 2, 1)), (197, (.aload_n 0, 1)), (198, (.iload_n 3, 1)), (199, (.iconst 1, 1)), (200, (.iadd, 1)), (201, (.iaload, 1)), (202, (.aload_n 0, 1)), (203, (.iload_n 3, 1)), (204, (.iconst 2, 1))] = true := by decide +kernel
theorem dL_law_187 : decode cL_law 187 = .ok (.aload_n 0, 1) := dkA_at dkA_2 0 rfl
theorem dL_law_188 : decode cL_law 188 = .ok (.iload_n 3, 1) := dkA_at dkA_2 1 rfl
theorem dL_law_189 : decode cL_law 189 = .ok (.iconst 3, 1) := dkA_at dkA_2 2 rfl
theorem dL_law_190 : decode cL_law 190 = .ok (.iadd, 1) := dkA_at dkA_2 3 rfl
theorem dL_law_191 : decode cL_law 191 = .ok (.iaload, 1) := dkA_at dkA_2 4 rfl
theorem dL_law_192 : decode cL_law 192 = .ok (.invokevirtual 13, 3) := dkA_at dkA_2 5 rfl
theorem dL_law_195 : decode cL_law 195 = .ok (.pop, 1) := dkA_at dkA_2 6 rfl
theorem dL_law_196 : decode cL_law 196 = .ok (.aload_n 2, 1) := dkA_at dkA_2 7 rfl
theorem dL_law_197 : decode cL_law 197 = .ok (.aload_n 0, 1) := dkA_at dkA_2 8 rfl
theorem dL_law_198 : decode cL_law 198 = .ok (.iload_n 3, 1) := dkA_at dkA_2 9 rfl
theorem dL_law_199 : decode cL_law 199 = .ok (.iconst 1, 1) := dkA_at dkA_2 10 rfl
theorem dL_law_200 : decode cL_law 200 = .ok (.iadd, 1) := dkA_at dkA_2 11 rfl
theorem dL_law_201 : decode cL_law 201 = .ok (.iaload, 1) := dkA_at dkA_2 12 rfl
theorem dL_law_202 : decode cL_law 202 = .ok (.aload_n 0, 1) := dkA_at dkA_2 13 rfl
theorem dL_law_203 : decode cL_law 203 = .ok (.iload_n 3, 1) := dkA_at dkA_2 14 rfl
theorem dL_law_204 : decode cL_law 204 = .ok (.iconst 2, 1) := dkA_at dkA_2 15 rfl
theorem dkA_3 : dkA cL_law [(205, (.iadd, 1)), (206, (.iaload, 1)), (207, (.aload_n 0, 1)), (208, (.iload_n 3, 1)), (209, (.iconst 3, 1)), (210, (.iadd, 1)), (211, (.iaload, 1)), (212, (.invokevirtual 17, 3)), (215, (.pop, 1)), (216, (.goto 986, 3)), (219, (.aload_n 1, 1)), (220, (.aload_n 0, 1)), (221, (.iload_n 3, 1)), (222, (.iconst 1, 1)), (223, (.iadd, 1)), (224, (.iaload, 1))] = true := by decide +kernel
theorem dL_law_205 : decode cL_law 205 = .ok (.iadd, 1) := dkA_at dkA_3 0 rfl
theorem dL_law_206 : decode cL_law 206 = .ok (.iaload, 1) := dkA_at dkA_3 1 rfl
theorem dL_law_207 : decode cL_law 207 = .ok (.aload_n 0, 1) := dkA_at dkA_3 2 rfl
theorem dL_law_208 : decode cL_law 208 = .ok (.iload_n 3, 1) := dkA_at dkA_3 3 rfl
theorem dL_law_209 : decode cL_law 209 = .ok (.iconst 3, 1) := dkA_at dkA_3 4 rfl
theorem dL_law_210 : decode cL_law 210 = .ok (.iadd, 1) := dkA_at dkA_3 5 rfl
theorem dL_law_211 : decode cL_law 211 = .ok (.iaload, 1) := dkA_at dkA_3 6 rfl
theorem dL_law_212 : decode cL_law 212 = .ok (.invokevirtual 17, 3) := dkA_at dkA_3 7 rfl
theorem dL_law_215 : decode cL_law 215 = .ok (.pop, 1) := dkA_at dkA_3 8 rfl
theorem dL_law_216 : decode cL_law 216 = .ok (.goto 986, 3) := dkA_at dkA_3 9 rfl
theorem dL_law_219 : decode cL_law 219 = .ok (.aload_n 1, 1) := dkA_at dkA_3 10 rfl
theorem dL_law_220 : decode cL_law 220 = .ok (.aload_n 0, 1) := dkA_at dkA_3 11 rfl
theorem dL_law_221 : decode cL_law 221 = .ok (.iload_n 3, 1) := dkA_at dkA_3 12 rfl
theorem dL_law_222 : decode cL_law 222 = .ok (.iconst 1, 1) := dkA_at dkA_3 13 rfl
theorem dL_law_223 : decode cL_law 223 = .ok (.iadd, 1) := dkA_at dkA_3 14 rfl
theorem dL_law_224 : decode cL_law 224 = .ok (.iaload, 1) := dkA_at dkA_3 15 rfl
theorem dkA_4 : dkA cL_law [(225, (.aload_n 0, 1)), (226, (.iload_n 3, 1)), (227, (.iconst 2, 1)), (228, (.iadd, 1)), (229, (.iaload, 1)), (230, (.aload_n 0, 1)), (231, (.iload_n 3, 1)), (232, (.iconst 3, 1)), (233, (.iadd, 1)), (234, (.iaload, 1)), (235, (.invokevirtual 18, 3)), (238, (.pop, 1)), (239, (.aload_n 2, 1)), (240, (.aload_n 0, 1)), (241, (.iload_n 3, 1)), (242, (.iconst 1, 1))] = true := by decide +kernel
theorem dL_law_225 : decode cL_law 225 = .ok (.aload_n 0, 1) := dkA_at dkA_4 0 rfl
theorem dL_law_226 : decode cL_law 226 = .ok (.iload_n 3, 1) := dkA_at dkA_4 1 rfl
theorem dL_law_227 : decode cL_law 227 = .ok (.iconst 2, 1) := dkA_at dkA_4 2 rfl
theorem dL_law_228 : decode cL_law 228 = .ok (.iadd, 1) := dkA_at dkA_4 3 rfl
theorem dL_law_229 : decode cL_law 229 = .ok (.iaload, 1) := dkA_at dkA_4 4 rfl
theorem dL_law_230 : decode cL_law 230 = .ok (.aload_n 0, 1) := dkA_at dkA_4 5 rfl
theorem dL_law_231 : decode cL_law 231 = .ok (.iload_n 3, 1) := dkA_at dkA_4 6 rfl
theorem dL_law_232 : decode cL_law 232 = .ok (.iconst 3, 1) := dkA_at dkA_4 7 rfl
theorem dL_law_233 : decode cL_law 233 = .ok (.iadd, 1) := dkA_at dkA_4 8 rfl
theorem dL_law_234 : decode cL_law 234 = .ok (.iaload, 1) := dkA_at dkA_4 9 rfl
theorem dL_law_235 : decode cL_law 235 = .ok (.invokevirtual 18, 3) := dkA_at dkA_4 10 rfl
theorem dL_law_238 : decode cL_law 238 = .ok (.pop, 1) := dkA_at dkA_4 11 rfl
theorem dL_law_239 : decode cL_law 239 = .ok (.aload_n 2, 1) := dkA_at dkA_4 12 rfl
theorem dL_law_240 : decode cL_law 240 = .ok (.aload_n 0, 1) := dkA_at dkA_4 13 rfl
theorem dL_law_241 : decode cL_law 241 = .ok (.iload_n 3, 1) := dkA_at dkA_4 14 rfl
theorem dL_law_242 : decode cL_law 242 = .ok (.iconst 1, 1) := dkA_at dkA_4 15 rfl
theorem dkA_5 : dkA cL_law [(243, (.iadd, 1)), (244, (.iaload, 1)), (245, (.aload_n 0, 1)), (246, (.iload_n 3, 1)), (247, (.iconst 2, 1)), (248, (.iadd, 1)), (249, (.iaload, 1)), (250, (.aload_n 0, 1)), (251, (.iload_n 3, 1)), (252, (.iconst 3, 1)), (253, (.iadd, 1)), (254, (.iaload, 1)), (255, (.invokevirtual 21, 3)), (258, (.pop, 1)), (259, (.goto 943, 3)), (262, (.aload_n 1, 1))] = true := by decide +kernel
theorem dL_law_243 : decode cL_law 243 = .ok (.iadd, 1) := dkA_at dkA_5 0 rfl
theorem dL_law_244 : decode cL_law 244 = .ok (.iaload, 1) := dkA_at dkA_5 1 rfl
theorem dL_law_245 : decode cL_law 245 = .ok (.aload_n 0, 1) := dkA_at dkA_5 2 rfl
theorem dL_law_246 : decode cL_law 246 = .ok (.iload_n 3, 1) := dkA_at dkA_5 3 rfl
theorem dL_law_247 : decode cL_law 247 = .ok (.iconst 2, 1) := dkA_at dkA_5 4 rfl
theorem dL_law_248 : decode cL_law 248 = .ok (.iadd, 1) := dkA_at dkA_5 5 rfl
theorem dL_law_249 : decode cL_law 249 = .ok (.iaload, 1) := dkA_at dkA_5 6 rfl
theorem dL_law_250 : decode cL_law 250 = .ok (.aload_n 0, 1) := dkA_at dkA_5 7 rfl
theorem dL_law_251 : decode cL_law 251 = .ok (.iload_n 3, 1) := dkA_at dkA_5 8 rfl
theorem dL_law_252 : decode cL_law 252 = .ok (.iconst 3, 1) := dkA_at dkA_5 9 rfl
theorem dL_law_253 : decode cL_law 253 = .ok (.iadd, 1) := dkA_at dkA_5 10 rfl
theorem dL_law_254 : decode cL_law 254 = .ok (.iaload, 1) := dkA_at dkA_5 11 rfl
theorem dL_law_255 : decode cL_law 255 = .ok (.invokevirtual 21, 3) := dkA_at dkA_5 12 rfl
theorem dL_law_258 : decode cL_law 258 = .ok (.pop, 1) := dkA_at dkA_5 13 rfl
theorem dL_law_259 : decode cL_law 259 = .ok (.goto 943, 3) := dkA_at dkA_5 14 rfl
theorem dL_law_262 : decode cL_law 262 = .ok (.aload_n 1, 1) := dkA_at dkA_5 15 rfl
theorem dkA_6 : dkA cL_law [(263, (.aload_n 0, 1)), (264, (.iload_n 3, 1)), (265, (.iconst 1, 1)), (266, (.iadd, 1)), (267, (.iaload, 1)), (268, (.invokevirtual 22, 3)), (271, (.pop, 1)), (272, (.aload_n 2, 1)), (273, (.aload_n 0, 1)), (274, (.iload_n 3, 1)), (275, (.iconst 1, 1)), (276, (.iadd, 1)), (277, (.iaload, 1)), (278, (.invokevirtual 26, 3)), (281, (.pop, 1)), (282, (.goto 920, 3))] = true := by decide +kernel
theorem dL_law_263 : decode cL_law 263 = .ok (.aload_n 0, 1) := dkA_at dkA_6 0 rfl
theorem dL_law_264 : decode cL_law 264 = .ok (.iload_n 3, 1) := dkA_at dkA_6 1 rfl
theorem dL_law_265 : decode cL_law 265 = .ok (.iconst 1, 1) := dkA_at dkA_6 2 rfl
theorem dL_law_266 : decode cL_law 266 = .ok (.iadd, 1) := dkA_at dkA_6 3 rfl
theorem dL_law_267 : decode cL_law 267 = .ok (.iaload, 1) := dkA_at dkA_6 4 rfl
theorem dL_law_268 : decode cL_law 268 = .ok (.invokevirtual 22, 3) := dkA_at dkA_6 5 rfl
theorem dL_law_271 : decode cL_law 271 = .ok (.pop, 1) := dkA_at dkA_6 6 rfl
theorem dL_law_272 : decode cL_law 272 = .ok (.aload_n 2, 1) := dkA_at dkA_6 7 rfl
theorem dL_law_273 : decode cL_law 273 = .ok (.aload_n 0, 1) := dkA_at dkA_6 8 rfl
theorem dL_law_274 : decode cL_law 274 = .ok (.iload_n 3, 1) := dkA_at dkA_6 9 rfl
theorem dL_law_275 : decode cL_law 275 = .ok (.iconst 1, 1) := dkA_at dkA_6 10 rfl
theorem dL_law_276 : decode cL_law 276 = .ok (.iadd, 1) := dkA_at dkA_6 11 rfl
theorem dL_law_277 : decode cL_law 277 = .ok (.iaload, 1) := dkA_at dkA_6 12 rfl
theorem dL_law_278 : decode cL_law 278 = .ok (.invokevirtual 26, 3) := dkA_at dkA_6 13 rfl
theorem dL_law_281 : decode cL_law 281 = .ok (.pop, 1) := dkA_at dkA_6 14 rfl
theorem dL_law_282 : decode cL_law 282 = .ok (.goto 920, 3) := dkA_at dkA_6 15 rfl
theorem dkA_7 : dkA cL_law [(285, (.aload_n 1, 1)), (286, (.aload_n 0, 1)), (287, (.iload_n 3, 1)), (288, (.iconst 1, 1)), (289, (.iadd, 1)), (290, (.iaload, 1)), (291, (.aload_n 0, 1)), (292, (.iload_n 3, 1)), (293, (.iconst 2, 1)), (294, (.iadd, 1)), (295, (.iaload, 1)), (296, (.invokevirtual 27, 3)), (299, (.pop, 1)), (300, (.aload_n 2, 1)), (301, (.aload_n 0, 1)), (302, (.iload_n 3, 1))] = true := by decide +kernel
theorem dL_law_285 : decode cL_law 285 = .ok (.aload_n 1, 1) := dkA_at dkA_7 0 rfl
theorem dL_law_286 : decode cL_law 286 = .ok (.aload_n 0, 1) := dkA_at dkA_7 1 rfl
theorem dL_law_287 : decode cL_law 287 = .ok (.iload_n 3, 1) := dkA_at dkA_7 2 rfl
theorem dL_law_288 : decode cL_law 288 = .ok (.iconst 1, 1) := dkA_at dkA_7 3 rfl
theorem dL_law_289 : decode cL_law 289 = .ok (.iadd, 1) := dkA_at dkA_7 4 rfl
theorem dL_law_290 : decode cL_law 290 = .ok (.iaload, 1) := dkA_at dkA_7 5 rfl
theorem dL_law_291 : decode cL_law 291 = .ok (.aload_n 0, 1) := dkA_at dkA_7 6 rfl
theorem dL_law_292 : decode cL_law 292 = .ok (.iload_n 3, 1) := dkA_at dkA_7 7 rfl
theorem dL_law_293 : decode cL_law 293 = .ok (.iconst 2, 1) := dkA_at dkA_7 8 rfl
theorem dL_law_294 : decode cL_law 294 = .ok (.iadd, 1) := dkA_at dkA_7 9 rfl
theorem dL_law_295 : decode cL_law 295 = .ok (.iaload, 1) := dkA_at dkA_7 10 rfl
theorem dL_law_296 : decode cL_law 296 = .ok (.invokevirtual 27, 3) := dkA_at dkA_7 11 rfl
theorem dL_law_299 : decode cL_law 299 = .ok (.pop, 1) := dkA_at dkA_7 12 rfl
theorem dL_law_300 : decode cL_law 300 = .ok (.aload_n 2, 1) := dkA_at dkA_7 13 rfl
theorem dL_law_301 : decode cL_law 301 = .ok (.aload_n 0, 1) := dkA_at dkA_7 14 rfl
theorem dL_law_302 : decode cL_law 302 = .ok (.iload_n 3, 1) := dkA_at dkA_7 15 rfl
theorem dkA_8 : dkA cL_law [(303, (.iconst 1, 1)), (304, (.iadd, 1)), (305, (.iaload, 1)), (306, (.aload_n 0, 1)), (307, (.iload_n 3, 1)), (308, (.iconst 2, 1)), (309, (.iadd, 1)), (310, (.iaload, 1)), (311, (.invokevirtual 31, 3)), (314, (.pop, 1)), (315, (.goto 887, 3)), (318, (.aload_n 1, 1)), (319, (.aload_n 0, 1)), (320, (.iload_n 3, 1)), (321, (.iconst 1, 1)), (322, (.iadd, 1))] = true := by decide +kernel
theorem dL_law_303 : decode cL_law 303 = .ok (.iconst 1, 1) := dkA_at dkA_8 0 rfl
theorem dL_law_304 : decode cL_law 304 = .ok (.iadd, 1) := dkA_at dkA_8 1 rfl
theorem dL_law_305 : decode cL_law 305 = .ok (.iaload, 1) := dkA_at dkA_8 2 rfl
theorem dL_law_306 : decode cL_law 306 = .ok (.aload_n 0, 1) := dkA_at dkA_8 3 rfl
theorem dL_law_307 : decode cL_law 307 = .ok (.iload_n 3, 1) := dkA_at dkA_8 4 rfl
theorem dL_law_308 : decode cL_law 308 = .ok (.iconst 2, 1) := dkA_at dkA_8 5 rfl
theorem dL_law_309 : decode cL_law 309 = .ok (.iadd, 1) := dkA_at dkA_8 6 rfl
theorem dL_law_310 : decode cL_law 310 = .ok (.iaload, 1) := dkA_at dkA_8 7 rfl
theorem dL_law_311 : decode cL_law 311 = .ok (.invokevirtual 31, 3) := dkA_at dkA_8 8 rfl
theorem dL_law_314 : decode cL_law 314 = .ok (.pop, 1) := dkA_at dkA_8 9 rfl
theorem dL_law_315 : decode cL_law 315 = .ok (.goto 887, 3) := dkA_at dkA_8 10 rfl
theorem dL_law_318 : decode cL_law 318 = .ok (.aload_n 1, 1) := dkA_at dkA_8 11 rfl
theorem dL_law_319 : decode cL_law 319 = .ok (.aload_n 0, 1) := dkA_at dkA_8 12 rfl
theorem dL_law_320 : decode cL_law 320 = .ok (.iload_n 3, 1) := dkA_at dkA_8 13 rfl
theorem dL_law_321 : decode cL_law 321 = .ok (.iconst 1, 1) := dkA_at dkA_8 14 rfl
theorem dL_law_322 : decode cL_law 322 = .ok (.iadd, 1) := dkA_at dkA_8 15 rfl
theorem dkA_9 : dkA cL_law [(323, (.iaload, 1)), (324, (.invokevirtual 32, 3)), (327, (.pop, 1)), (328, (.aload_n 2, 1)), (329, (.aload_n 0, 1)), (330, (.iload_n 3, 1)), (331, (.iconst 1, 1)), (332, (.iadd, 1)), (333, (.iaload, 1)), (334, (.invokevirtual 35, 3)), (337, (.pop, 1)), (338, (.goto 864, 3)), (341, (.aload_n 1, 1)), (342, (.aload_n 0, 1)), (343, (.iload_n 3, 1)), (344, (.iconst 1, 1))] = true := by decide +kernel
theorem dL_law_323 : decode cL_law 323 = .ok (.iaload, 1) := dkA_at dkA_9 0 rfl
theorem dL_law_324 : decode cL_law 324 = .ok (.invokevirtual 32, 3) := dkA_at dkA_9 1 rfl
theorem dL_law_327 : decode cL_law 327 = .ok (.pop, 1) := dkA_at dkA_9 2 rfl
theorem dL_law_328 : decode cL_law 328 = .ok (.aload_n 2, 1) := dkA_at dkA_9 3 rfl
theorem dL_law_329 : decode cL_law 329 = .ok (.aload_n 0, 1) := dkA_at dkA_9 4 rfl
theorem dL_law_330 : decode cL_law 330 = .ok (.iload_n 3, 1) := dkA_at dkA_9 5 rfl
theorem dL_law_331 : decode cL_law 331 = .ok (.iconst 1, 1) := dkA_at dkA_9 6 rfl
theorem dL_law_332 : decode cL_law 332 = .ok (.iadd, 1) := dkA_at dkA_9 7 rfl
theorem dL_law_333 : decode cL_law 333 = .ok (.iaload, 1) := dkA_at dkA_9 8 rfl
theorem dL_law_334 : decode cL_law 334 = .ok (.invokevirtual 35, 3) := dkA_at dkA_9 9 rfl
theorem dL_law_337 : decode cL_law 337 = .ok (.pop, 1) := dkA_at dkA_9 10 rfl
theorem dL_law_338 : decode cL_law 338 = .ok (.goto 864, 3) := dkA_at dkA_9 11 rfl
theorem dL_law_341 : decode cL_law 341 = .ok (.aload_n 1, 1) := dkA_at dkA_9 12 rfl
theorem dL_law_342 : decode cL_law 342 = .ok (.aload_n 0, 1) := dkA_at dkA_9 13 rfl
theorem dL_law_343 : decode cL_law 343 = .ok (.iload_n 3, 1) := dkA_at dkA_9 14 rfl
theorem dL_law_344 : decode cL_law 344 = .ok (.iconst 1, 1) := dkA_at dkA_9 15 rfl
theorem dkA_10 : dkA cL_law [(345, (.iadd, 1)), (346, (.iaload, 1)), (347, (.invokevirtual 36, 3)), (350, (.pop, 1)), (351, (.aload_n 2, 1)), (352, (.aload_n 0, 1)), (353, (.iload_n 3, 1)), (354, (.iconst 1, 1)), (355, (.iadd, 1)), (356, (.iaload, 1)), (357, (.invokevirtual 39, 3)), (360, (.pop, 1)), (361, (.goto 841, 3)), (364, (.aload_n 1, 1)), (365, (.invokevirtual 40, 3)), (368, (.pop, 1))] = true := by decide +kernel
theorem dL_law_345 : decode cL_law 345 = .ok (.iadd, 1) := dkA_at dkA_10 0 rfl
theorem dL_law_346 : decode cL_law 346 = .ok (.iaload, 1) := dkA_at dkA_10 1 rfl
theorem dL_law_347 : decode cL_law 347 = .ok (.invokevirtual 36, 3) := dkA_at dkA_10 2 rfl
theorem dL_law_350 : decode cL_law 350 = .ok (.pop, 1) := dkA_at dkA_10 3 rfl
theorem dL_law_351 : decode cL_law 351 = .ok (.aload_n 2, 1) := dkA_at dkA_10 4 rfl
theorem dL_law_352 : decode cL_law 352 = .ok (.aload_n 0, 1) := dkA_at dkA_10 5 rfl
theorem dL_law_353 : decode cL_law 353 = .ok (.iload_n 3, 1) := dkA_at dkA_10 6 rfl
theorem dL_law_354 : decode cL_law 354 = .ok (.iconst 1, 1) := dkA_at dkA_10 7 rfl
theorem dL_law_355 : decode cL_law 355 = .ok (.iadd, 1) := dkA_at dkA_10 8 rfl
theorem dL_law_356 : decode cL_law 356 = .ok (.iaload, 1) := dkA_at dkA_10 9 rfl
theorem dL_law_357 : decode cL_law 357 = .ok (.invokevirtual 39, 3) := dkA_at dkA_10 10 rfl
theorem dL_law_360 : decode cL_law 360 = .ok (.pop, 1) := dkA_at dkA_10 11 rfl
theorem dL_law_361 : decode cL_law 361 = .ok (.goto 841, 3) := dkA_at dkA_10 12 rfl
theorem dL_law_364 : decode cL_law 364 = .ok (.aload_n 1, 1) := dkA_at dkA_10 13 rfl
theorem dL_law_365 : decode cL_law 365 = .ok (.invokevirtual 40, 3) := dkA_at dkA_10 14 rfl
theorem dL_law_368 : decode cL_law 368 = .ok (.pop, 1) := dkA_at dkA_10 15 rfl
theorem dkA_11 : dkA cL_law [(369, (.aload_n 2, 1)), (370, (.invokevirtual 44, 3)), (373, (.pop, 1)), (374, (.goto 828, 3)), (377, (.aload_n 1, 1)), (378, (.aload_n 0, 1)), (379, (.iload_n 3, 1)), (380, (.iconst 1, 1)), (381, (.iadd, 1)), (382, (.iaload, 1)), (383, (.aload_n 0, 1)), (384, (.iload_n 3, 1)), (385, (.iconst 2, 1)), (386, (.iadd, 1)), (387, (.iaload, 1)), (388, (.aload_n 0, 1))] = true := by decide +kernel
theorem dL_law_369 : decode cL_law 369 = .ok (.aload_n 2, 1) := dkA_at dkA_11 0 rfl
theorem dL_law_370 : decode cL_law 370 = .ok (.invokevirtual 44, 3) := dkA_at dkA_11 1 rfl
theorem dL_law_373 : decode cL_law 373 = .ok (.pop, 1) := dkA_at dkA_11 2 rfl
theorem dL_law_374 : decode cL_law 374 = .ok (.goto 828, 3) := dkA_at dkA_11 3 rfl
theorem dL_law_377 : decode cL_law 377 = .ok (.aload_n 1, 1) := dkA_at dkA_11 4 rfl
theorem dL_law_378 : decode cL_law 378 = .ok (.aload_n 0, 1) := dkA_at dkA_11 5 rfl
theorem dL_law_379 : decode cL_law 379 = .ok (.iload_n 3, 1) := dkA_at dkA_11 6 rfl
theorem dL_law_380 : decode cL_law 380 = .ok (.iconst 1, 1) := dkA_at dkA_11 7 rfl
theorem dL_law_381 : decode cL_law 381 = .ok (.iadd, 1) := dkA_at dkA_11 8 rfl
theorem dL_law_382 : decode cL_law 382 = .ok (.iaload, 1) := dkA_at dkA_11 9 rfl
theorem dL_law_383 : decode cL_law 383 = .ok (.aload_n 0, 1) := dkA_at dkA_11 10 rfl
theorem dL_law_384 : decode cL_law 384 = .ok (.iload_n 3, 1) := dkA_at dkA_11 11 rfl
theorem dL_law_385 : decode cL_law 385 = .ok (.iconst 2, 1) := dkA_at dkA_11 12 rfl
theorem dL_law_386 : decode cL_law 386 = .ok (.iadd, 1) := dkA_at dkA_11 13 rfl
theorem dL_law_387 : decode cL_law 387 = .ok (.iaload, 1) := dkA_at dkA_11 14 rfl
theorem dL_law_388 : decode cL_law 388 = .ok (.aload_n 0, 1) := dkA_at dkA_11 15 rfl
theorem dkA_12 : dkA cL_law [(389, (.iload_n 3, 1)), (390, (.iconst 3, 1)), (391, (.iadd, 1)), (392, (.iaload, 1)), (393, (.invokevirtual 45, 3)), (396, (.pop2, 1)), (397, (.aload_n 2, 1)), (398, (.aload_n 0, 1)), (399, (.iload_n 3, 1)), (400, (.iconst 1, 1)), (401, (.iadd, 1)), (402, (.iaload, 1)), (403, (.aload_n 0, 1)), (404, (.iload_n 3, 1)), (405, (.iconst 2, 1)), (406, (.iadd, 1))] = true := by decide +kernel
theorem dL_law_389 : decode cL_law 389 = .ok (.iload_n 3, 1) := dkA_at dkA_12 0 rfl
theorem dL_law_390 : decode cL_law 390 = .ok (.iconst 3, 1) := dkA_at dkA_12 1 rfl
theorem dL_law_391 : decode cL_law 391 = .ok (.iadd, 1) := dkA_at dkA_12 2 rfl
theorem dL_law_392 : decode cL_law 392 = .ok (.iaload, 1) := dkA_at dkA_12 3 rfl
theorem dL_law_393 : decode cL_law 393 = .ok (.invokevirtual 45, 3) := dkA_at dkA_12 4 rfl
theorem dL_law_396 : decode cL_law 396 = .ok (.pop2, 1) := dkA_at dkA_12 5 rfl
theorem dL_law_397 : decode cL_law 397 = .ok (.aload_n 2, 1) := dkA_at dkA_12 6 rfl
theorem dL_law_398 : decode cL_law 398 = .ok (.aload_n 0, 1) := dkA_at dkA_12 7 rfl
theorem dL_law_399 : decode cL_law 399 = .ok (.iload_n 3, 1) := dkA_at dkA_12 8 rfl
theorem dL_law_400 : decode cL_law 400 = .ok (.iconst 1, 1) := dkA_at dkA_12 9 rfl
theorem dL_law_401 : decode cL_law 401 = .ok (.iadd, 1) := dkA_at dkA_12 10 rfl
theorem dL_law_402 : decode cL_law 402 = .ok (.iaload, 1) := dkA_at dkA_12 11 rfl
theorem dL_law_403 : decode cL_law 403 = .ok (.aload_n 0, 1) := dkA_at dkA_12 12 rfl
theorem dL_law_404 : decode cL_law 404 = .ok (.iload_n 3, 1) := dkA_at dkA_12 13 rfl
theorem dL_law_405 : decode cL_law 405 = .ok (.iconst 2, 1) := dkA_at dkA_12 14 rfl
theorem dL_law_406 : decode cL_law 406 = .ok (.iadd, 1) := dkA_at dkA_12 15 rfl
theorem dkA_13 : dkA cL_law [(407, (.iaload, 1)), (408, (.aload_n 0, 1)), (409, (.iload_n 3, 1)), (410, (.iconst 3, 1)), (411, (.iadd, 1)), (412, (.iaload, 1)), (413, (.invokevirtual 49, 3)), (416, (.pop2, 1)), (417, (.goto 785, 3)), (420, (.aload_n 1, 1)), (421, (.aload_n 0, 1)), (422, (.iload_n 3, 1)), (423, (.iconst 1, 1)), (424, (.iadd, 1)), (425, (.iaload, 1)), (426, (.invokevirtual 50, 3))] = true := by decide +kernel
theorem dL_law_407 : decode cL_law 407 = .ok (.iaload, 1) := dkA_at dkA_13 0 rfl
theorem dL_law_408 : decode cL_law 408 = .ok (.aload_n 0, 1) := dkA_at dkA_13 1 rfl
theorem dL_law_409 : decode cL_law 409 = .ok (.iload_n 3, 1) := dkA_at dkA_13 2 rfl
theorem dL_law_410 : decode cL_law 410 = .ok (.iconst 3, 1) := dkA_at dkA_13 3 rfl
theorem dL_law_411 : decode cL_law 411 = .ok (.iadd, 1) := dkA_at dkA_13 4 rfl
theorem dL_law_412 : decode cL_law 412 = .ok (.iaload, 1) := dkA_at dkA_13 5 rfl
theorem dL_law_413 : decode cL_law 413 = .ok (.invokevirtual 49, 3) := dkA_at dkA_13 6 rfl
theorem dL_law_416 : decode cL_law 416 = .ok (.pop2, 1) := dkA_at dkA_13 7 rfl
theorem dL_law_417 : decode cL_law 417 = .ok (.goto 785, 3) := dkA_at dkA_13 8 rfl
theorem dL_law_420 : decode cL_law 420 = .ok (.aload_n 1, 1) := dkA_at dkA_13 9 rfl
theorem dL_law_421 : decode cL_law 421 = .ok (.aload_n 0, 1) := dkA_at dkA_13 10 rfl
theorem dL_law_422 : decode cL_law 422 = .ok (.iload_n 3, 1) := dkA_at dkA_13 11 rfl
theorem dL_law_423 : decode cL_law 423 = .ok (.iconst 1, 1) := dkA_at dkA_13 12 rfl
theorem dL_law_424 : decode cL_law 424 = .ok (.iadd, 1) := dkA_at dkA_13 13 rfl
theorem dL_law_425 : decode cL_law 425 = .ok (.iaload, 1) := dkA_at dkA_13 14 rfl
theorem dL_law_426 : decode cL_law 426 = .ok (.invokevirtual 50, 3) := dkA_at dkA_13 15 rfl
theorem dkA_14 : dkA cL_law [(429, (.pop, 1)), (430, (.aload_n 2, 1)), (431, (.aload_n 0, 1)), (432, (.iload_n 3, 1)), (433, (.iconst 1, 1)), (434, (.iadd, 1)), (435, (.iaload, 1)), (436, (.invokevirtual 53, 3)), (439, (.pop, 1)), (440, (.goto 762, 3)), (443, (.aload_n 1, 1)), (444, (.aload_n 0, 1)), (445, (.iload_n 3, 1)), (446, (.iconst 1, 1)), (447, (.iadd, 1)), (448, (.iaload, 1))] = true := by decide +kernel
theorem dL_law_429 : decode cL_law 429 = .ok (.pop, 1) := dkA_at dkA_14 0 rfl
theorem dL_law_430 : decode cL_law 430 = .ok (.aload_n 2, 1) := dkA_at dkA_14 1 rfl
theorem dL_law_431 : decode cL_law 431 = .ok (.aload_n 0, 1) := dkA_at dkA_14 2 rfl
theorem dL_law_432 : decode cL_law 432 = .ok (.iload_n 3, 1) := dkA_at dkA_14 3 rfl
theorem dL_law_433 : decode cL_law 433 = .ok (.iconst 1, 1) := dkA_at dkA_14 4 rfl
theorem dL_law_434 : decode cL_law 434 = .ok (.iadd, 1) := dkA_at dkA_14 5 rfl
theorem dL_law_435 : decode cL_law 435 = .ok (.iaload, 1) := dkA_at dkA_14 6 rfl
theorem dL_law_436 : decode cL_law 436 = .ok (.invokevirtual 53, 3) := dkA_at dkA_14 7 rfl
theorem dL_law_439 : decode cL_law 439 = .ok (.pop, 1) := dkA_at dkA_14 8 rfl
theorem dL_law_440 : decode cL_law 440 = .ok (.goto 762, 3) := dkA_at dkA_14 9 rfl
theorem dL_law_443 : decode cL_law 443 = .ok (.aload_n 1, 1) := dkA_at dkA_14 10 rfl
theorem dL_law_444 : decode cL_law 444 = .ok (.aload_n 0, 1) := dkA_at dkA_14 11 rfl
theorem dL_law_445 : decode cL_law 445 = .ok (.iload_n 3, 1) := dkA_at dkA_14 12 rfl
theorem dL_law_446 : decode cL_law 446 = .ok (.iconst 1, 1) := dkA_at dkA_14 13 rfl
theorem dL_law_447 : decode cL_law 447 = .ok (.iadd, 1) := dkA_at dkA_14 14 rfl
theorem dL_law_448 : decode cL_law 448 = .ok (.iaload, 1) := dkA_at dkA_14 15 rfl
theorem dkA_15 : dkA cL_law [(449, (.aload_n 0, 1)), (450, (.iload_n 3, 1)), (451, (.iconst 2, 1)), (452, (.iadd, 1)), (453, (.iaload, 1)), (454, (.invokevirtual 54, 3)), (457, (.pop2, 1)), (458, (.aload_n 2, 1)), (459, (.aload_n 0, 1)), (460, (.iload_n 3, 1)), (461, (.iconst 1, 1)), (462, (.iadd, 1)), (463, (.iaload, 1)), (464, (.aload_n 0, 1)), (465, (.iload_n 3, 1)), (466, (.iconst 2, 1))] = true := by decide +kernel
theorem dL_law_449 : decode cL_law 449 = .ok (.aload_n 0, 1) := dkA_at dkA_15 0 rfl
theorem dL_law_450 : decode cL_law 450 = .ok (.iload_n 3, 1) := dkA_at dkA_15 1 rfl
theorem dL_law_451 : decode cL_law 451 = .ok (.iconst 2, 1) := dkA_at dkA_15 2 rfl
theorem dL_law_452 : decode cL_law 452 = .ok (.iadd, 1) := dkA_at dkA_15 3 rfl
theorem dL_law_453 : decode cL_law 453 = .ok (.iaload, 1) := dkA_at dkA_15 4 rfl
theorem dL_law_454 : decode cL_law 454 = .ok (.invokevirtual 54, 3) := dkA_at dkA_15 5 rfl
theorem dL_law_457 : decode cL_law 457 = .ok (.pop2, 1) := dkA_at dkA_15 6 rfl
theorem dL_law_458 : decode cL_law 458 = .ok (.aload_n 2, 1) := dkA_at dkA_15 7 rfl
theorem dL_law_459 : decode cL_law 459 = .ok (.aload_n 0, 1) := dkA_at dkA_15 8 rfl
theorem dL_law_460 : decode cL_law 460 = .ok (.iload_n 3, 1) := dkA_at dkA_15 9 rfl
theorem dL_law_461 : decode cL_law 461 = .ok (.iconst 1, 1) := dkA_at dkA_15 10 rfl
theorem dL_law_462 : decode cL_law 462 = .ok (.iadd, 1) := dkA_at dkA_15 11 rfl
theorem dL_law_463 : decode cL_law 463 = .ok (.iaload, 1) := dkA_at dkA_15 12 rfl
theorem dL_law_464 : decode cL_law 464 = .ok (.aload_n 0, 1) := dkA_at dkA_15 13 rfl
theorem dL_law_465 : decode cL_law 465 = .ok (.iload_n 3, 1) := dkA_at dkA_15 14 rfl
theorem dL_law_466 : decode cL_law 466 = .ok (.iconst 2, 1) := dkA_at dkA_15 15 rfl
theorem dkA_16 : dkA cL_law [(467, (.iadd, 1)), (468, (.iaload, 1)), (469, (.invokevirtual 58, 3)), (472, (.pop2, 1)), (473, (.goto 729, 3)), (476, (.aload_n 1, 1)), (477, (.aload_n 0, 1)), (478, (.iload_n 3, 1)), (479, (.iconst 1, 1)), (480, (.iadd, 1)), (481, (.iaload, 1)), (482, (.invokevirtual 59, 3)), (485, (.pop, 1)), (486, (.aload_n 2, 1)), (487, (.aload_n 0, 1)), (488, (.iload_n 3, 1))] = true := by decide +kernel
theorem dL_law_467 : decode cL_law 467 = .ok (.iadd, 1) := dkA_at dkA_16 0 rfl
theorem dL_law_468 : decode cL_law 468 = .ok (.iaload, 1) := dkA_at dkA_16 1 rfl
theorem dL_law_469 : decode cL_law 469 = .ok (.invokevirtual 58, 3) := dkA_at dkA_16 2 rfl
theorem dL_law_472 : decode cL_law 472 = .ok (.pop2, 1) := dkA_at dkA_16 3 rfl
theorem dL_law_473 : decode cL_law 473 = .ok (.goto 729, 3) := dkA_at dkA_16 4 rfl
theorem dL_law_476 : decode cL_law 476 = .ok (.aload_n 1, 1) := dkA_at dkA_16 5 rfl
theorem dL_law_477 : decode cL_law 477 = .ok (.aload_n 0, 1) := dkA_at dkA_16 6 rfl
theorem dL_law_478 : decode cL_law 478 = .ok (.iload_n 3, 1) := dkA_at dkA_16 7 rfl
theorem dL_law_479 : decode cL_law 479 = .ok (.iconst 1, 1) := dkA_at dkA_16 8 rfl
theorem dL_law_480 : decode cL_law 480 = .ok (.iadd, 1) := dkA_at dkA_16 9 rfl
theorem dL_law_481 : decode cL_law 481 = .ok (.iaload, 1) := dkA_at dkA_16 10 rfl
theorem dL_law_482 : decode cL_law 482 = .ok (.invokevirtual 59, 3) := dkA_at dkA_16 11 rfl
theorem dL_law_485 : decode cL_law 485 = .ok (.pop, 1) := dkA_at dkA_16 12 rfl
theorem dL_law_486 : decode cL_law 486 = .ok (.aload_n 2, 1) := dkA_at dkA_16 13 rfl
theorem dL_law_487 : decode cL_law 487 = .ok (.aload_n 0, 1) := dkA_at dkA_16 14 rfl
theorem dL_law_488 : decode cL_law 488 = .ok (.iload_n 3, 1) := dkA_at dkA_16 15 rfl
theorem dkA_17 : dkA cL_law [(489, (.iconst 1, 1)), (490, (.iadd, 1)), (491, (.iaload, 1)), (492, (.invokevirtual 62, 3)), (495, (.pop, 1)), (496, (.goto 706, 3)), (499, (.aload_n 1, 1)), (500, (.aload_n 0, 1)), (501, (.iload_n 3, 1)), (502, (.iconst 1, 1)), (503, (.iadd, 1)), (504, (.iaload, 1)), (505, (.aload_n 0, 1)), (506, (.iload_n 3, 1)), (507, (.iconst 2, 1)), (508, (.iadd, 1))] = true := by decide +kernel
theorem dL_law_489 : decode cL_law 489 = .ok (.iconst 1, 1) := dkA_at dkA_17 0 rfl
theorem dL_law_490 : decode cL_law 490 = .ok (.iadd, 1) := dkA_at dkA_17 1 rfl
theorem dL_law_491 : decode cL_law 491 = .ok (.iaload, 1) := dkA_at dkA_17 2 rfl
theorem dL_law_492 : decode cL_law 492 = .ok (.invokevirtual 62, 3) := dkA_at dkA_17 3 rfl
theorem dL_law_495 : decode cL_law 495 = .ok (.pop, 1) := dkA_at dkA_17 4 rfl
theorem dL_law_496 : decode cL_law 496 = .ok (.goto 706, 3) := dkA_at dkA_17 5 rfl
theorem dL_law_499 : decode cL_law 499 = .ok (.aload_n 1, 1) := dkA_at dkA_17 6 rfl
theorem dL_law_500 : decode cL_law 500 = .ok (.aload_n 0, 1) := dkA_at dkA_17 7 rfl
theorem dL_law_501 : decode cL_law 501 = .ok (.iload_n 3, 1) := dkA_at dkA_17 8 rfl
theorem dL_law_502 : decode cL_law 502 = .ok (.iconst 1, 1) := dkA_at dkA_17 9 rfl
theorem dL_law_503 : decode cL_law 503 = .ok (.iadd, 1) := dkA_at dkA_17 10 rfl
theorem dL_law_504 : decode cL_law 504 = .ok (.iaload, 1) := dkA_at dkA_17 11 rfl
theorem dL_law_505 : decode cL_law 505 = .ok (.aload_n 0, 1) := dkA_at dkA_17 12 rfl
theorem dL_law_506 : decode cL_law 506 = .ok (.iload_n 3, 1) := dkA_at dkA_17 13 rfl
theorem dL_law_507 : decode cL_law 507 = .ok (.iconst 2, 1) := dkA_at dkA_17 14 rfl
theorem dL_law_508 : decode cL_law 508 = .ok (.iadd, 1) := dkA_at dkA_17 15 rfl
theorem dkA_18 : dkA cL_law [(509, (.iaload, 1)), (510, (.invokevirtual 63, 3)), (513, (.pop2, 1)), (514, (.aload_n 2, 1)), (515, (.aload_n 0, 1)), (516, (.iload_n 3, 1)), (517, (.iconst 1, 1)), (518, (.iadd, 1)), (519, (.iaload, 1)), (520, (.aload_n 0, 1)), (521, (.iload_n 3, 1)), (522, (.iconst 2, 1)), (523, (.iadd, 1)), (524, (.iaload, 1)), (525, (.invokevirtual 66, 3)), (528, (.pop2, 1))] = true := by decide +kernel
theorem dL_law_509 : decode cL_law 509 = .ok (.iaload, 1) := dkA_at dkA_18 0 rfl
theorem dL_law_510 : decode cL_law 510 = .ok (.invokevirtual 63, 3) := dkA_at dkA_18 1 rfl
theorem dL_law_513 : decode cL_law 513 = .ok (.pop2, 1) := dkA_at dkA_18 2 rfl
theorem dL_law_514 : decode cL_law 514 = .ok (.aload_n 2, 1) := dkA_at dkA_18 3 rfl
theorem dL_law_515 : decode cL_law 515 = .ok (.aload_n 0, 1) := dkA_at dkA_18 4 rfl
theorem dL_law_516 : decode cL_law 516 = .ok (.iload_n 3, 1) := dkA_at dkA_18 5 rfl
theorem dL_law_517 : decode cL_law 517 = .ok (.iconst 1, 1) := dkA_at dkA_18 6 rfl
theorem dL_law_518 : decode cL_law 518 = .ok (.iadd, 1) := dkA_at dkA_18 7 rfl
theorem dL_law_519 : decode cL_law 519 = .ok (.iaload, 1) := dkA_at dkA_18 8 rfl
theorem dL_law_520 : decode cL_law 520 = .ok (.aload_n 0, 1) := dkA_at dkA_18 9 rfl
theorem dL_law_521 : decode cL_law 521 = .ok (.iload_n 3, 1) := dkA_at dkA_18 10 rfl
theorem dL_law_522 : decode cL_law 522 = .ok (.iconst 2, 1) := dkA_at dkA_18 11 rfl
theorem dL_law_523 : decode cL_law 523 = .ok (.iadd, 1) := dkA_at dkA_18 12 rfl
theorem dL_law_524 : decode cL_law 524 = .ok (.iaload, 1) := dkA_at dkA_18 13 rfl
theorem dL_law_525 : decode cL_law 525 = .ok (.invokevirtual 66, 3) := dkA_at dkA_18 14 rfl
theorem dL_law_528 : decode cL_law 528 = .ok (.pop2, 1) := dkA_at dkA_18 15 rfl
theorem dkA_19 : dkA cL_law [(529, (.goto 673, 3)), (532, (.aload_n 1, 1)), (533, (.aload_n 0, 1)), (534, (.iload_n 3, 1)), (535, (.iconst 1, 1)), (536, (.iadd, 1)), (537, (.iaload, 1)), (538, (.aload_n 0, 1)), (539, (.iload_n 3, 1)), (540, (.iconst 2, 1)), (541, (.iadd, 1)), (542, (.iaload, 1)), (543, (.aload_n 0, 1)), (544, (.iload_n 3, 1)), (545, (.iconst 3, 1)), (546, (.iadd, 1))] = true := by decide +kernel
theorem dL_law_529 : decode cL_law 529 = .ok (.goto 673, 3) := dkA_at dkA_19 0 rfl
theorem dL_law_532 : decode cL_law 532 = .ok (.aload_n 1, 1) := dkA_at dkA_19 1 rfl
theorem dL_law_533 : decode cL_law 533 = .ok (.aload_n 0, 1) := dkA_at dkA_19 2 rfl
theorem dL_law_534 : decode cL_law 534 = .ok (.iload_n 3, 1) := dkA_at dkA_19 3 rfl
theorem dL_law_535 : decode cL_law 535 = .ok (.iconst 1, 1) := dkA_at dkA_19 4 rfl
theorem dL_law_536 : decode cL_law 536 = .ok (.iadd, 1) := dkA_at dkA_19 5 rfl
theorem dL_law_537 : decode cL_law 537 = .ok (.iaload, 1) := dkA_at dkA_19 6 rfl
theorem dL_law_538 : decode cL_law 538 = .ok (.aload_n 0, 1) := dkA_at dkA_19 7 rfl
theorem dL_law_539 : decode cL_law 539 = .ok (.iload_n 3, 1) := dkA_at dkA_19 8 rfl
theorem dL_law_540 : decode cL_law 540 = .ok (.iconst 2, 1) := dkA_at dkA_19 9 rfl
theorem dL_law_541 : decode cL_law 541 = .ok (.iadd, 1) := dkA_at dkA_19 10 rfl
theorem dL_law_542 : decode cL_law 542 = .ok (.iaload, 1) := dkA_at dkA_19 11 rfl
theorem dL_law_543 : decode cL_law 543 = .ok (.aload_n 0, 1) := dkA_at dkA_19 12 rfl
theorem dL_law_544 : decode cL_law 544 = .ok (.iload_n 3, 1) := dkA_at dkA_19 13 rfl
theorem dL_law_545 : decode cL_law 545 = .ok (.iconst 3, 1) := dkA_at dkA_19 14 rfl
theorem dL_law_546 : decode cL_law 546 = .ok (.iadd, 1) := dkA_at dkA_19 15 rfl
theorem dkA_20 : dkA cL_law [(547, (.iaload, 1)), (548, (.aload_n 0, 1)), (549, (.iload_n 3, 1)), (550, (.iconst 4, 1)), (551, (.iadd, 1)), (552, (.iaload, 1)), (553, (.invokevirtual 67, 3)), (556, (.pop2, 1)), (557, (.aload_n 2, 1)), (558, (.aload_n 0, 1)), (559, (.iload_n 3, 1)), (560, (.iconst 1, 1)), (561, (.iadd, 1)), (562, (.iaload, 1)), (563, (.aload_n 0, 1)), (564, (.iload_n 3, 1))] = true := by decide +kernel
theorem dL_law_547 : decode cL_law 547 = .ok (.iaload, 1) := dkA_at dkA_20 0 rfl
theorem dL_law_548 : decode cL_law 548 = .ok (.aload_n 0, 1) := dkA_at dkA_20 1 rfl
theorem dL_law_549 : decode cL_law 549 = .ok (.iload_n 3, 1) := dkA_at dkA_20 2 rfl
theorem dL_law_550 : decode cL_law 550 = .ok (.iconst 4, 1) := dkA_at dkA_20 3 rfl
theorem dL_law_551 : decode cL_law 551 = .ok (.iadd, 1) := dkA_at dkA_20 4 rfl
theorem dL_law_552 : decode cL_law 552 = .ok (.iaload, 1) := dkA_at dkA_20 5 rfl
theorem dL_law_553 : decode cL_law 553 = .ok (.invokevirtual 67, 3) := dkA_at dkA_20 6 rfl
theorem dL_law_556 : decode cL_law 556 = .ok (.pop2, 1) := dkA_at dkA_20 7 rfl
theorem dL_law_557 : decode cL_law 557 = .ok (.aload_n 2, 1) := dkA_at dkA_20 8 rfl
theorem dL_law_558 : decode cL_law 558 = .ok (.aload_n 0, 1) := dkA_at dkA_20 9 rfl
theorem dL_law_559 : decode cL_law 559 = .ok (.iload_n 3, 1) := dkA_at dkA_20 10 rfl
theorem dL_law_560 : decode cL_law 560 = .ok (.iconst 1, 1) := dkA_at dkA_20 11 rfl
theorem dL_law_561 : decode cL_law 561 = .ok (.iadd, 1) := dkA_at dkA_20 12 rfl
theorem dL_law_562 : decode cL_law 562 = .ok (.iaload, 1) := dkA_at dkA_20 13 rfl
theorem dL_law_563 : decode cL_law 563 = .ok (.aload_n 0, 1) := dkA_at dkA_20 14 rfl
theorem dL_law_564 : decode cL_law 564 = .ok (.iload_n 3, 1) := dkA_at dkA_20 15 rfl
theorem dkA_21 : dkA cL_law [(565, (.iconst 2, 1)), (566, (.iadd, 1)), (567, (.iaload, 1)), (568, (.aload_n 0, 1)), (569, (.iload_n 3, 1)), (570, (.iconst 3, 1)), (571, (.iadd, 1)), (572, (.iaload, 1)), (573, (.aload_n 0, 1)), (574, (.iload_n 3, 1)), (575, (.iconst 4, 1)), (576, (.iadd, 1)), (577, (.iaload, 1)), (578, (.invokevirtual 71, 3)), (581, (.pop2, 1)), (582, (.goto 620, 3))] = true := by decide +kernel
theorem dL_law_565 : decode cL_law 565 = .ok (.iconst 2, 1) := dkA_at dkA_21 0 rfl
theorem dL_law_566 : decode cL_law 566 = .ok (.iadd, 1) := dkA_at dkA_21 1 rfl
theorem dL_law_567 : decode cL_law 567 = .ok (.iaload, 1) := dkA_at dkA_21 2 rfl
theorem dL_law_568 : decode cL_law 568 = .ok (.aload_n 0, 1) := dkA_at dkA_21 3 rfl
theorem dL_law_569 : decode cL_law 569 = .ok (.iload_n 3, 1) := dkA_at dkA_21 4 rfl
theorem dL_law_570 : decode cL_law 570 = .ok (.iconst 3, 1) := dkA_at dkA_21 5 rfl
theorem dL_law_571 : decode cL_law 571 = .ok (.iadd, 1) := dkA_at dkA_21 6 rfl
theorem dL_law_572 : decode cL_law 572 = .ok (.iaload, 1) := dkA_at dkA_21 7 rfl
theorem dL_law_573 : decode cL_law 573 = .ok (.aload_n 0, 1) := dkA_at dkA_21 8 rfl
theorem dL_law_574 : decode cL_law 574 = .ok (.iload_n 3, 1) := dkA_at dkA_21 9 rfl
theorem dL_law_575 : decode cL_law 575 = .ok (.iconst 4, 1) := dkA_at dkA_21 10 rfl
theorem dL_law_576 : decode cL_law 576 = .ok (.iadd, 1) := dkA_at dkA_21 11 rfl
theorem dL_law_577 : decode cL_law 577 = .ok (.iaload, 1) := dkA_at dkA_21 12 rfl
theorem dL_law_578 : decode cL_law 578 = .ok (.invokevirtual 71, 3) := dkA_at dkA_21 13 rfl
theorem dL_law_581 : decode cL_law 581 = .ok (.pop2, 1) := dkA_at dkA_21 14 rfl
theorem dL_law_582 : decode cL_law 582 = .ok (.goto 620, 3) := dkA_at dkA_21 15 rfl
theorem dkA_22 : dkA cL_law [(585, (.aload_n 1, 1)), (586, (.aload_n 0, 1)), (587, (.iload_n 3, 1)), (588, (.iconst 1, 1)), (589, (.iadd, 1)), (590, (.iaload, 1)), (591, (.aload_n 0, 1)), (592, (.iload_n 3, 1)), (593, (.iconst 2, 1)), (594, (.iadd, 1)), (595, (.iaload, 1)), (596, (.invokevirtual 72, 3)), (599, (.pop2, 1)), (600, (.aload_n 2, 1)), (601, (.aload_n 0, 1)), (602, (.iload_n 3, 1))] = true := by decide +kernel
theorem dL_law_585 : decode cL_law 585 = .ok (.aload_n 1, 1) := dkA_at dkA_22 0 rfl
theorem dL_law_586 : decode cL_law 586 = .ok (.aload_n 0, 1) := dkA_at dkA_22 1 rfl
theorem dL_law_587 : decode cL_law 587 = .ok (.iload_n 3, 1) := dkA_at dkA_22 2 rfl
theorem dL_law_588 : decode cL_law 588 = .ok (.iconst 1, 1) := dkA_at dkA_22 3 rfl
theorem dL_law_589 : decode cL_law 589 = .ok (.iadd, 1) := dkA_at dkA_22 4 rfl
theorem dL_law_590 : decode cL_law 590 = .ok (.iaload, 1) := dkA_at dkA_22 5 rfl
theorem dL_law_591 : decode cL_law 591 = .ok (.aload_n 0, 1) := dkA_at dkA_22 6 rfl
theorem dL_law_592 : decode cL_law 592 = .ok (.iload_n 3, 1) := dkA_at dkA_22 7 rfl
theorem dL_law_593 : decode cL_law 593 = .ok (.iconst 2, 1) := dkA_at dkA_22 8 rfl
theorem dL_law_594 : decode cL_law 594 = .ok (.iadd, 1) := dkA_at dkA_22 9 rfl
theorem dL_law_595 : decode cL_law 595 = .ok (.iaload, 1) := dkA_at dkA_22 10 rfl
theorem dL_law_596 : decode cL_law 596 = .ok (.invokevirtual 72, 3) := dkA_at dkA_22 11 rfl
theorem dL_law_599 : decode cL_law 599 = .ok (.pop2, 1) := dkA_at dkA_22 12 rfl
theorem dL_law_600 : decode cL_law 600 = .ok (.aload_n 2, 1) := dkA_at dkA_22 13 rfl
theorem dL_law_601 : decode cL_law 601 = .ok (.aload_n 0, 1) := dkA_at dkA_22 14 rfl
theorem dL_law_602 : decode cL_law 602 = .ok (.iload_n 3, 1) := dkA_at dkA_22 15 rfl
theorem dkA_23 : dkA cL_law [(603, (.iconst 1, 1)), (604, (.iadd, 1)), (605, (.iaload, 1)), (606, (.aload_n 0, 1)), (607, (.iload_n 3, 1)), (608, (.iconst 2, 1)), (609, (.iadd, 1)), (610, (.iaload, 1)), (611, (.invokevirtual 75, 3)), (614, (.pop2, 1)), (615, (.goto 587, 3)), (618, (.aload_n 1, 1)), (619, (.aload_n 0, 1)), (620, (.iload_n 3, 1)), (621, (.iconst 1, 1)), (622, (.iadd, 1))] = true := by decide +kernel
theorem dL_law_603 : decode cL_law 603 = .ok (.iconst 1, 1) := dkA_at dkA_23 0 rfl
theorem dL_law_604 : decode cL_law 604 = .ok (.iadd, 1) := dkA_at dkA_23 1 rfl
theorem dL_law_605 : decode cL_law 605 = .ok (.iaload, 1) := dkA_at dkA_23 2 rfl
theorem dL_law_606 : decode cL_law 606 = .ok (.aload_n 0, 1) := dkA_at dkA_23 3 rfl
theorem dL_law_607 : decode cL_law 607 = .ok (.iload_n 3, 1) := dkA_at dkA_23 4 rfl
theorem dL_law_608 : decode cL_law 608 = .ok (.iconst 2, 1) := dkA_at dkA_23 5 rfl
theorem dL_law_609 : decode cL_law 609 = .ok (.iadd, 1) := dkA_at dkA_23 6 rfl
theorem dL_law_610 : decode cL_law 610 = .ok (.iaload, 1) := dkA_at dkA_23 7 rfl
theorem dL_law_611 : decode cL_law 611 = .ok (.invokevirtual 75, 3) := dkA_at dkA_23 8 rfl
theorem dL_law_614 : decode cL_law 614 = .ok (.pop2, 1) := dkA_at dkA_23 9 rfl
theorem dL_law_615 : decode cL_law 615 = .ok (.goto 587, 3) := dkA_at dkA_23 10 rfl
theorem dL_law_618 : decode cL_law 618 = .ok (.aload_n 1, 1) := dkA_at dkA_23 11 rfl
theorem dL_law_619 : decode cL_law 619 = .ok (.aload_n 0, 1) := dkA_at dkA_23 12 rfl
theorem dL_law_620 : decode cL_law 620 = .ok (.iload_n 3, 1) := dkA_at dkA_23 13 rfl
theorem dL_law_621 : decode cL_law 621 = .ok (.iconst 1, 1) := dkA_at dkA_23 14 rfl
theorem dL_law_622 : decode cL_law 622 = .ok (.iadd, 1) := dkA_at dkA_23 15 rfl
theorem dkA_24 : dkA cL_law [(623, (.iaload, 1)), (624, (.invokevirtual 76, 3)), (627, (.pop, 1)), (628, (.aload_n 2, 1)), (629, (.aload_n 0, 1)), (630, (.iload_n 3, 1)), (631, (.iconst 1, 1)), (632, (.iadd, 1)), (633, (.iaload, 1)), (634, (.invokevirtual 79, 3)), (637, (.pop, 1)), (638, (.goto 564, 3)), (641, (.aload_n 1, 1)), (642, (.aload_n 0, 1)), (643, (.iload_n 3, 1)), (644, (.iconst 1, 1))] = true := by decide +kernel
theorem dL_law_623 : decode cL_law 623 = .ok (.iaload, 1) := dkA_at dkA_24 0 rfl
theorem dL_law_624 : decode cL_law 624 = .ok (.invokevirtual 76, 3) := dkA_at dkA_24 1 rfl
theorem dL_law_627 : decode cL_law 627 = .ok (.pop, 1) := dkA_at dkA_24 2 rfl
theorem dL_law_628 : decode cL_law 628 = .ok (.aload_n 2, 1) := dkA_at dkA_24 3 rfl
theorem dL_law_629 : decode cL_law 629 = .ok (.aload_n 0, 1) := dkA_at dkA_24 4 rfl
theorem dL_law_630 : decode cL_law 630 = .ok (.iload_n 3, 1) := dkA_at dkA_24 5 rfl
theorem dL_law_631 : decode cL_law 631 = .ok (.iconst 1, 1) := dkA_at dkA_24 6 rfl
theorem dL_law_632 : decode cL_law 632 = .ok (.iadd, 1) := dkA_at dkA_24 7 rfl
theorem dL_law_633 : decode cL_law 633 = .ok (.iaload, 1) := dkA_at dkA_24 8 rfl
theorem dL_law_634 : decode cL_law 634 = .ok (.invokevirtual 79, 3) := dkA_at dkA_24 9 rfl
theorem dL_law_637 : decode cL_law 637 = .ok (.pop, 1) := dkA_at dkA_24 10 rfl
theorem dL_law_638 : decode cL_law 638 = .ok (.goto 564, 3) := dkA_at dkA_24 11 rfl
theorem dL_law_641 : decode cL_law 641 = .ok (.aload_n 1, 1) := dkA_at dkA_24 12 rfl
theorem dL_law_642 : decode cL_law 642 = .ok (.aload_n 0, 1) := dkA_at dkA_24 13 rfl
theorem dL_law_643 : decode cL_law 643 = .ok (.iload_n 3, 1) := dkA_at dkA_24 14 rfl
theorem dL_law_644 : decode cL_law 644 = .ok (.iconst 1, 1) := dkA_at dkA_24 15 rfl
theorem dkA_25 : dkA cL_law [(645, (.iadd, 1)), (646, (.iaload, 1)), (647, (.aload_n 0, 1)), (648, (.iload_n 3, 1)), (649, (.iconst 2, 1)), (650, (.iadd, 1)), (651, (.iaload, 1)), (652, (.aload_n 0, 1)), (653, (.iload_n 3, 1)), (654, (.iconst 3, 1)), (655, (.iadd, 1)), (656, (.iaload, 1)), (657, (.invokevirtual 80, 3)), (660, (.pop2, 1)), (661, (.aload_n 2, 1)), (662, (.aload_n 0, 1))] = true := by decide +kernel
theorem dL_law_645 : decode cL_law 645 = .ok (.iadd, 1) := dkA_at dkA_25 0 rfl
theorem dL_law_646 : decode cL_law 646 = .ok (.iaload, 1) := dkA_at dkA_25 1 rfl
theorem dL_law_647 : decode cL_law 647 = .ok (.aload_n 0, 1) := dkA_at dkA_25 2 rfl
theorem dL_law_648 : decode cL_law 648 = .ok (.iload_n 3, 1) := dkA_at dkA_25 3 rfl
theorem dL_law_649 : decode cL_law 649 = .ok (.iconst 2, 1) := dkA_at dkA_25 4 rfl
theorem dL_law_650 : decode cL_law 650 = .ok (.iadd, 1) := dkA_at dkA_25 5 rfl
theorem dL_law_651 : decode cL_law 651 = .ok (.iaload, 1) := dkA_at dkA_25 6 rfl
theorem dL_law_652 : decode cL_law 652 = .ok (.aload_n 0, 1) := dkA_at dkA_25 7 rfl
theorem dL_law_653 : decode cL_law 653 = .ok (.iload_n 3, 1) := dkA_at dkA_25 8 rfl
theorem dL_law_654 : decode cL_law 654 = .ok (.iconst 3, 1) := dkA_at dkA_25 9 rfl
theorem dL_law_655 : decode cL_law 655 = .ok (.iadd, 1) := dkA_at dkA_25 10 rfl
theorem dL_law_656 : decode cL_law 656 = .ok (.iaload, 1) := dkA_at dkA_25 11 rfl
theorem dL_law_657 : decode cL_law 657 = .ok (.invokevirtual 80, 3) := dkA_at dkA_25 12 rfl
theorem dL_law_660 : decode cL_law 660 = .ok (.pop2, 1) := dkA_at dkA_25 13 rfl
theorem dL_law_661 : decode cL_law 661 = .ok (.aload_n 2, 1) := dkA_at dkA_25 14 rfl
theorem dL_law_662 : decode cL_law 662 = .ok (.aload_n 0, 1) := dkA_at dkA_25 15 rfl
theorem dkA_26 : dkA cL_law [(663, (.iload_n 3, 1)), (664, (.iconst 1, 1)), (665, (.iadd, 1)), (666, (.iaload, 1)), (667, (.aload_n 0, 1)), (668, (.iload_n 3, 1)), (669, (.iconst 2, 1)), (670, (.iadd, 1)), (671, (.iaload, 1)), (672, (.aload_n 0, 1)), (673, (.iload_n 3, 1)), (674, (.iconst 3, 1)), (675, (.iadd, 1)), (676, (.iaload, 1)), (677, (.invokevirtual 83, 3)), (680, (.pop2, 1))] = true := by decide +kernel
theorem dL_law_663 : decode cL_law 663 = .ok (.iload_n 3, 1) := dkA_at dkA_26 0 rfl
theorem dL_law_664 : decode cL_law 664 = .ok (.iconst 1, 1) := dkA_at dkA_26 1 rfl
theorem dL_law_665 : decode cL_law 665 = .ok (.iadd, 1) := dkA_at dkA_26 2 rfl
theorem dL_law_666 : decode cL_law 666 = .ok (.iaload, 1) := dkA_at dkA_26 3 rfl
theorem dL_law_667 : decode cL_law 667 = .ok (.aload_n 0, 1) := dkA_at dkA_26 4 rfl
theorem dL_law_668 : decode cL_law 668 = .ok (.iload_n 3, 1) := dkA_at dkA_26 5 rfl
theorem dL_law_669 : decode cL_law 669 = .ok (.iconst 2, 1) := dkA_at dkA_26 6 rfl
theorem dL_law_670 : decode cL_law 670 = .ok (.iadd, 1) := dkA_at dkA_26 7 rfl
theorem dL_law_671 : decode cL_law 671 = .ok (.iaload, 1) := dkA_at dkA_26 8 rfl
theorem dL_law_672 : decode cL_law 672 = .ok (.aload_n 0, 1) := dkA_at dkA_26 9 rfl
theorem dL_law_673 : decode cL_law 673 = .ok (.iload_n 3, 1) := dkA_at dkA_26 10 rfl
theorem dL_law_674 : decode cL_law 674 = .ok (.iconst 3, 1) := dkA_at dkA_26 11 rfl
theorem dL_law_675 : decode cL_law 675 = .ok (.iadd, 1) := dkA_at dkA_26 12 rfl
theorem dL_law_676 : decode cL_law 676 = .ok (.iaload, 1) := dkA_at dkA_26 13 rfl
theorem dL_law_677 : decode cL_law 677 = .ok (.invokevirtual 83, 3) := dkA_at dkA_26 14 rfl
theorem dL_law_680 : decode cL_law 680 = .ok (.pop2, 1) := dkA_at dkA_26 15 rfl
theorem dkA_27 : dkA cL_law [(681, (.goto 521, 3)), (684, (.aload_n 1, 1)), (685, (.aload_n 0, 1)), (686, (.iload_n 3, 1)), (687, (.iconst 1, 1)), (688, (.iadd, 1)), (689, (.iaload, 1)), (690, (.aload_n 0, 1)), (691, (.iload_n 3, 1)), (692, (.iconst 2, 1)), (693, (.iadd, 1)), (694, (.iaload, 1)), (695, (.invokevirtual 84, 3)), (698, (.pop, 1)), (699, (.aload_n 2, 1)), (700, (.aload_n 0, 1))] = true := by decide +kernel
theorem dL_law_681 : decode cL_law 681 = .ok (.goto 521, 3) := dkA_at dkA_27 0 rfl
theorem dL_law_684 : decode cL_law 684 = .ok (.aload_n 1, 1) := dkA_at dkA_27 1 rfl
theorem dL_law_685 : decode cL_law 685 = .ok (.aload_n 0, 1) := dkA_at dkA_27 2 rfl
theorem dL_law_686 : decode cL_law 686 = .ok (.iload_n 3, 1) := dkA_at dkA_27 3 rfl
theorem dL_law_687 : decode cL_law 687 = .ok (.iconst 1, 1) := dkA_at dkA_27 4 rfl
theorem dL_law_688 : decode cL_law 688 = .ok (.iadd, 1) := dkA_at dkA_27 5 rfl
theorem dL_law_689 : decode cL_law 689 = .ok (.iaload, 1) := dkA_at dkA_27 6 rfl
theorem dL_law_690 : decode cL_law 690 = .ok (.aload_n 0, 1) := dkA_at dkA_27 7 rfl
theorem dL_law_691 : decode cL_law 691 = .ok (.iload_n 3, 1) := dkA_at dkA_27 8 rfl
theorem dL_law_692 : decode cL_law 692 = .ok (.iconst 2, 1) := dkA_at dkA_27 9 rfl
theorem dL_law_693 : decode cL_law 693 = .ok (.iadd, 1) := dkA_at dkA_27 10 rfl
theorem dL_law_694 : decode cL_law 694 = .ok (.iaload, 1) := dkA_at dkA_27 11 rfl
theorem dL_law_695 : decode cL_law 695 = .ok (.invokevirtual 84, 3) := dkA_at dkA_27 12 rfl
theorem dL_law_698 : decode cL_law 698 = .ok (.pop, 1) := dkA_at dkA_27 13 rfl
theorem dL_law_699 : decode cL_law 699 = .ok (.aload_n 2, 1) := dkA_at dkA_27 14 rfl
theorem dL_law_700 : decode cL_law 700 = .ok (.aload_n 0, 1) := dkA_at dkA_27 15 rfl
theorem dkA_28 : dkA cL_law [(701, (.iload_n 3, 1)), (702, (.iconst 1, 1)), (703, (.iadd, 1)), (704, (.iaload, 1)), (705, (.aload_n 0, 1)), (706, (.iload_n 3, 1)), (707, (.iconst 2, 1)), (708, (.iadd, 1)), (709, (.iaload, 1)), (710, (.invokevirtual 87, 3)), (713, (.pop, 1)), (714, (.goto 488, 3)), (717, (.aload_n 1, 1)), (718, (.aload_n 0, 1)), (719, (.iload_n 3, 1)), (720, (.iconst 1, 1))] = true := by decide +kernel
theorem dL_law_701 : decode cL_law 701 = .ok (.iload_n 3, 1) := dkA_at dkA_28 0 rfl
theorem dL_law_702 : decode cL_law 702 = .ok (.iconst 1, 1) := dkA_at dkA_28 1 rfl
theorem dL_law_703 : decode cL_law 703 = .ok (.iadd, 1) := dkA_at dkA_28 2 rfl
theorem dL_law_704 : decode cL_law 704 = .ok (.iaload, 1) := dkA_at dkA_28 3 rfl
theorem dL_law_705 : decode cL_law 705 = .ok (.aload_n 0, 1) := dkA_at dkA_28 4 rfl
theorem dL_law_706 : decode cL_law 706 = .ok (.iload_n 3, 1) := dkA_at dkA_28 5 rfl
theorem dL_law_707 : decode cL_law 707 = .ok (.iconst 2, 1) := dkA_at dkA_28 6 rfl
theorem dL_law_708 : decode cL_law 708 = .ok (.iadd, 1) := dkA_at dkA_28 7 rfl
theorem dL_law_709 : decode cL_law 709 = .ok (.iaload, 1) := dkA_at dkA_28 8 rfl
theorem dL_law_710 : decode cL_law 710 = .ok (.invokevirtual 87, 3) := dkA_at dkA_28 9 rfl
theorem dL_law_713 : decode cL_law 713 = .ok (.pop, 1) := dkA_at dkA_28 10 rfl
theorem dL_law_714 : decode cL_law 714 = .ok (.goto 488, 3) := dkA_at dkA_28 11 rfl
theorem dL_law_717 : decode cL_law 717 = .ok (.aload_n 1, 1) := dkA_at dkA_28 12 rfl
theorem dL_law_718 : decode cL_law 718 = .ok (.aload_n 0, 1) := dkA_at dkA_28 13 rfl
theorem dL_law_719 : decode cL_law 719 = .ok (.iload_n 3, 1) := dkA_at dkA_28 14 rfl
theorem dL_law_720 : decode cL_law 720 = .ok (.iconst 1, 1) := dkA_at dkA_28 15 rfl
theorem dkA_29 : dkA cL_law [(721, (.iadd, 1)), (722, (.iaload, 1)), (723, (.aload_n 0, 1)), (724, (.iload_n 3, 1)), (725, (.iconst 2, 1)), (726, (.iadd, 1)), (727, (.iaload, 1)), (728, (.invokevirtual 88, 3)), (731, (.pop, 1)), (732, (.aload_n 2, 1)), (733, (.aload_n 0, 1)), (734, (.iload_n 3, 1)), (735, (.iconst 1, 1)), (736, (.iadd, 1)), (737, (.iaload, 1)), (738, (.aload_n 0, 1))] = true := by decide +kernel
theorem dL_law_721 : decode cL_law 721 = .ok (.iadd, 1) := dkA_at dkA_29 0 rfl
theorem dL_law_722 : decode cL_law 722 = .ok (.iaload, 1) := dkA_at dkA_29 1 rfl
theorem dL_law_723 : decode cL_law 723 = .ok (.aload_n 0, 1) := dkA_at dkA_29 2 rfl
theorem dL_law_724 : decode cL_law 724 = .ok (.iload_n 3, 1) := dkA_at dkA_29 3 rfl
theorem dL_law_725 : decode cL_law 725 = .ok (.iconst 2, 1) := dkA_at dkA_29 4 rfl
theorem dL_law_726 : decode cL_law 726 = .ok (.iadd, 1) := dkA_at dkA_29 5 rfl
theorem dL_law_727 : decode cL_law 727 = .ok (.iaload, 1) := dkA_at dkA_29 6 rfl
theorem dL_law_728 : decode cL_law 728 = .ok (.invokevirtual 88, 3) := dkA_at dkA_29 7 rfl
theorem dL_law_731 : decode cL_law 731 = .ok (.pop, 1) := dkA_at dkA_29 8 rfl
theorem dL_law_732 : decode cL_law 732 = .ok (.aload_n 2, 1) := dkA_at dkA_29 9 rfl
theorem dL_law_733 : decode cL_law 733 = .ok (.aload_n 0, 1) := dkA_at dkA_29 10 rfl
theorem dL_law_734 : decode cL_law 734 = .ok (.iload_n 3, 1) := dkA_at dkA_29 11 rfl
theorem dL_law_735 : decode cL_law 735 = .ok (.iconst 1, 1) := dkA_at dkA_29 12 rfl
theorem dL_law_736 : decode cL_law 736 = .ok (.iadd, 1) := dkA_at dkA_29 13 rfl
theorem dL_law_737 : decode cL_law 737 = .ok (.iaload, 1) := dkA_at dkA_29 14 rfl
theorem dL_law_738 : decode cL_law 738 = .ok (.aload_n 0, 1) := dkA_at dkA_29 15 rfl
theorem dkA_30 : dkA cL_law [(739, (.iload_n 3, 1)), (740, (.iconst 2, 1)), (741, (.iadd, 1)), (742, (.iaload, 1)), (743, (.invokevirtual 91, 3)), (746, (.pop, 1)), (747, (.goto 455, 3)), (750, (.aload_n 1, 1)), (751, (.aload_n 0, 1)), (752, (.iload_n 3, 1)), (753, (.iconst 1, 1)), (754, (.iadd, 1)), (755, (.iaload, 1)), (756, (.aload_n 0, 1)), (757, (.iload_n 3, 1)), (758, (.iconst 2, 1))] = true := by decide +kernel
theorem dL_law_739 : decode cL_law 739 = .ok (.iload_n 3, 1) := dkA_at dkA_30 0 rfl
theorem dL_law_740 : decode cL_law 740 = .ok (.iconst 2, 1) := dkA_at dkA_30 1 rfl
theorem dL_law_741 : decode cL_law 741 = .ok (.iadd, 1) := dkA_at dkA_30 2 rfl
theorem dL_law_742 : decode cL_law 742 = .ok (.iaload, 1) := dkA_at dkA_30 3 rfl
theorem dL_law_743 : decode cL_law 743 = .ok (.invokevirtual 91, 3) := dkA_at dkA_30 4 rfl
theorem dL_law_746 : decode cL_law 746 = .ok (.pop, 1) := dkA_at dkA_30 5 rfl
theorem dL_law_747 : decode cL_law 747 = .ok (.goto 455, 3) := dkA_at dkA_30 6 rfl
theorem dL_law_750 : decode cL_law 750 = .ok (.aload_n 1, 1) := dkA_at dkA_30 7 rfl
theorem dL_law_751 : decode cL_law 751 = .ok (.aload_n 0, 1) := dkA_at dkA_30 8 rfl
theorem dL_law_752 : decode cL_law 752 = .ok (.iload_n 3, 1) := dkA_at dkA_30 9 rfl
theorem dL_law_753 : decode cL_law 753 = .ok (.iconst 1, 1) := dkA_at dkA_30 10 rfl
theorem dL_law_754 : decode cL_law 754 = .ok (.iadd, 1) := dkA_at dkA_30 11 rfl
theorem dL_law_755 : decode cL_law 755 = .ok (.iaload, 1) := dkA_at dkA_30 12 rfl
theorem dL_law_756 : decode cL_law 756 = .ok (.aload_n 0, 1) := dkA_at dkA_30 13 rfl
theorem dL_law_757 : decode cL_law 757 = .ok (.iload_n 3, 1) := dkA_at dkA_30 14 rfl
theorem dL_law_758 : decode cL_law 758 = .ok (.iconst 2, 1) := dkA_at dkA_30 15 rfl
theorem dkA_31 : dkA cL_law [(759, (.iadd, 1)), (760, (.iaload, 1)), (761, (.invokevirtual 92, 3)), (764, (.pop2, 1)), (765, (.aload_n 2, 1)), (766, (.aload_n 0, 1)), (767, (.iload_n 3, 1)), (768, (.iconst 1, 1)), (769, (.iadd, 1)), (770, (.iaload, 1)), (771, (.aload_n 0, 1)), (772, (.iload_n 3, 1)), (773, (.iconst 2, 1)), (774, (.iadd, 1)), (775, (.iaload, 1)), (776, (.invokevirtual 95, 3))] = true := by decide +kernel
theorem dL_law_759 : decode cL_law 759 = .ok (.iadd, 1) := dkA_at dkA_31 0 rfl
theorem dL_law_760 : decode cL_law 760 = .ok (.iaload, 1) := dkA_at dkA_31 1 rfl
theorem dL_law_761 : decode cL_law 761 = .ok (.invokevirtual 92, 3) := dkA_at dkA_31 2 rfl
theorem dL_law_764 : decode cL_law 764 = .ok (.pop2, 1) := dkA_at dkA_31 3 rfl
theorem dL_law_765 : decode cL_law 765 = .ok (.aload_n 2, 1) := dkA_at dkA_31 4 rfl
theorem dL_law_766 : decode cL_law 766 = .ok (.aload_n 0, 1) := dkA_at dkA_31 5 rfl
theorem dL_law_767 : decode cL_law 767 = .ok (.iload_n 3, 1) := dkA_at dkA_31 6 rfl
theorem dL_law_768 : decode cL_law 768 = .ok (.iconst 1, 1) := dkA_at dkA_31 7 rfl
theorem dL_law_769 : decode cL_law 769 = .ok (.iadd, 1) := dkA_at dkA_31 8 rfl
theorem dL_law_770 : decode cL_law 770 = .ok (.iaload, 1) := dkA_at dkA_31 9 rfl
theorem dL_law_771 : decode cL_law 771 = .ok (.aload_n 0, 1) := dkA_at dkA_31 10 rfl
theorem dL_law_772 : decode cL_law 772 = .ok (.iload_n 3, 1) := dkA_at dkA_31 11 rfl
theorem dL_law_773 : decode cL_law 773 = .ok (.iconst 2, 1) := dkA_at dkA_31 12 rfl
theorem dL_law_774 : decode cL_law 774 = .ok (.iadd, 1) := dkA_at dkA_31 13 rfl
theorem dL_law_775 : decode cL_law 775 = .ok (.iaload, 1) := dkA_at dkA_31 14 rfl
theorem dL_law_776 : decode cL_law 776 = .ok (.invokevirtual 95, 3) := dkA_at dkA_31 15 rfl
theorem dkA_32 : dkA cL_law [(779, (.pop2, 1)), (780, (.goto 422, 3)), (783, (.aload_n 1, 1)), (784, (.aload_n 0, 1)), (785, (.iload_n 3, 1)), (786, (.iconst 1, 1)), (787, (.iadd, 1)), (788, (.iaload, 1)), (789, (.invokevirtual 96, 3)), (792, (.pop2, 1)), (793, (.aload_n 2, 1)), (794, (.aload_n 0, 1)), (795, (.iload_n 3, 1)), (796, (.iconst 1, 1)), (797, (.iadd, 1)), (798, (.iaload, 1))] = true := by decide +kernel
theorem dL_law_779 : decode cL_law 779 = .ok (.pop2, 1) := dkA_at dkA_32 0 rfl
theorem dL_law_780 : decode cL_law 780 = .ok (.goto 422, 3) := dkA_at dkA_32 1 rfl
theorem dL_law_783 : decode cL_law 783 = .ok (.aload_n 1, 1) := dkA_at dkA_32 2 rfl
theorem dL_law_784 : decode cL_law 784 = .ok (.aload_n 0, 1) := dkA_at dkA_32 3 rfl
theorem dL_law_785 : decode cL_law 785 = .ok (.iload_n 3, 1) := dkA_at dkA_32 4 rfl
theorem dL_law_786 : decode cL_law 786 = .ok (.iconst 1, 1) := dkA_at dkA_32 5 rfl
theorem dL_law_787 : decode cL_law 787 = .ok (.iadd, 1) := dkA_at dkA_32 6 rfl
theorem dL_law_788 : decode cL_law 788 = .ok (.iaload, 1) := dkA_at dkA_32 7 rfl
theorem dL_law_789 : decode cL_law 789 = .ok (.invokevirtual 96, 3) := dkA_at dkA_32 8 rfl
theorem dL_law_792 : decode cL_law 792 = .ok (.pop2, 1) := dkA_at dkA_32 9 rfl
theorem dL_law_793 : decode cL_law 793 = .ok (.aload_n 2, 1) := dkA_at dkA_32 10 rfl
theorem dL_law_794 : decode cL_law 794 = .ok (.aload_n 0, 1) := dkA_at dkA_32 11 rfl
theorem dL_law_795 : decode cL_law 795 = .ok (.iload_n 3, 1) := dkA_at dkA_32 12 rfl
theorem dL_law_796 : decode cL_law 796 = .ok (.iconst 1, 1) := dkA_at dkA_32 13 rfl
theorem dL_law_797 : decode cL_law 797 = .ok (.iadd, 1) := dkA_at dkA_32 14 rfl
theorem dL_law_798 : decode cL_law 798 = .ok (.iaload, 1) := dkA_at dkA_32 15 rfl
theorem dkA_33 : dkA cL_law [(799, (.invokevirtual 100, 3)), (802, (.pop2, 1)), (803, (.goto 399, 3)), (806, (.aload_n 1, 1)), (807, (.aload_n 0, 1)), (808, (.iload_n 3, 1)), (809, (.iconst 1, 1)), (810, (.iadd, 1)), (811, (.iaload, 1)), (812, (.aload_n 0, 1)), (813, (.iload_n 3, 1)), (814, (.iconst 2, 1)), (815, (.iadd, 1)), (816, (.iaload, 1)), (817, (.invokevirtual 101, 3)), (820, (.pop, 1))] = true := by decide +kernel
theorem dL_law_799 : decode cL_law 799 = .ok (.invokevirtual 100, 3) := dkA_at dkA_33 0 rfl
theorem dL_law_802 : decode cL_law 802 = .ok (.pop2, 1) := dkA_at dkA_33 1 rfl
theorem dL_law_803 : decode cL_law 803 = .ok (.goto 399, 3) := dkA_at dkA_33 2 rfl
theorem dL_law_806 : decode cL_law 806 = .ok (.aload_n 1, 1) := dkA_at dkA_33 3 rfl
theorem dL_law_807 : decode cL_law 807 = .ok (.aload_n 0, 1) := dkA_at dkA_33 4 rfl
theorem dL_law_808 : decode cL_law 808 = .ok (.iload_n 3, 1) := dkA_at dkA_33 5 rfl
theorem dL_law_809 : decode cL_law 809 = .ok (.iconst 1, 1) := dkA_at dkA_33 6 rfl
theorem dL_law_810 : decode cL_law 810 = .ok (.iadd, 1) := dkA_at dkA_33 7 rfl
theorem dL_law_811 : decode cL_law 811 = .ok (.iaload, 1) := dkA_at dkA_33 8 rfl
theorem dL_law_812 : decode cL_law 812 = .ok (.aload_n 0, 1) := dkA_at dkA_33 9 rfl
theorem dL_law_813 : decode cL_law 813 = .ok (.iload_n 3, 1) := dkA_at dkA_33 10 rfl
theorem dL_law_814 : decode cL_law 814 = .ok (.iconst 2, 1) := dkA_at dkA_33 11 rfl
theorem dL_law_815 : decode cL_law 815 = .ok (.iadd, 1) := dkA_at dkA_33 12 rfl
theorem dL_law_816 : decode cL_law 816 = .ok (.iaload, 1) := dkA_at dkA_33 13 rfl
theorem dL_law_817 : decode cL_law 817 = .ok (.invokevirtual 101, 3) := dkA_at dkA_33 14 rfl
theorem dL_law_820 : decode cL_law 820 = .ok (.pop, 1) := dkA_at dkA_33 15 rfl
theorem dkA_34 : dkA cL_law [(821, (.aload_n 2, 1)), (822, (.aload_n 0, 1)), (823, (.iload_n 3, 1)), (824, (.iconst 1, 1)), (825, (.iadd, 1)), (826, (.iaload, 1)), (827, (.aload_n 0, 1)), (828, (.iload_n 3, 1)), (829, (.iconst 2, 1)), (830, (.iadd, 1)), (831, (.iaload, 1)), (832, (.invokevirtual 104, 3)), (835, (.pop, 1)), (836, (.goto 366, 3)), (839, (.aload_n 1, 1)), (840, (.aload_n 0, 1))] = true := by decide +kernel
theorem dL_law_821 : decode cL_law 821 = .ok (.aload_n 2, 1) := dkA_at dkA_34 0 rfl
theorem dL_law_822 : decode cL_law 822 = .ok (.aload_n 0, 1) := dkA_at dkA_34 1 rfl
theorem dL_law_823 : decode cL_law 823 = .ok (.iload_n 3, 1) := dkA_at dkA_34 2 rfl
theorem dL_law_824 : decode cL_law 824 = .ok (.iconst 1, 1) := dkA_at dkA_34 3 rfl
theorem dL_law_825 : decode cL_law 825 = .ok (.iadd, 1) := dkA_at dkA_34 4 rfl
theorem dL_law_826 : decode cL_law 826 = .ok (.iaload, 1) := dkA_at dkA_34 5 rfl
theorem dL_law_827 : decode cL_law 827 = .ok (.aload_n 0, 1) := dkA_at dkA_34 6 rfl
theorem dL_law_828 : decode cL_law 828 = .ok (.iload_n 3, 1) := dkA_at dkA_34 7 rfl
theorem dL_law_829 : decode cL_law 829 = .ok (.iconst 2, 1) := dkA_at dkA_34 8 rfl
theorem dL_law_830 : decode cL_law 830 = .ok (.iadd, 1) := dkA_at dkA_34 9 rfl
theorem dL_law_831 : decode cL_law 831 = .ok (.iaload, 1) := dkA_at dkA_34 10 rfl
theorem dL_law_832 : decode cL_law 832 = .ok (.invokevirtual 104, 3) := dkA_at dkA_34 11 rfl
theorem dL_law_835 : decode cL_law 835 = .ok (.pop, 1) := dkA_at dkA_34 12 rfl
theorem dL_law_836 : decode cL_law 836 = .ok (.goto 366, 3) := dkA_at dkA_34 13 rfl
theorem dL_law_839 : decode cL_law 839 = .ok (.aload_n 1, 1) := dkA_at dkA_34 14 rfl
theorem dL_law_840 : decode cL_law 840 = .ok (.aload_n 0, 1) := dkA_at dkA_34 15 rfl
theorem dkA_35 : dkA cL_law [(841, (.iload_n 3, 1)), (842, (.iconst 1, 1)), (843, (.iadd, 1)), (844, (.iaload, 1)), (845, (.invokevirtual 105, 3)), (848, (.pop, 1)), (849, (.aload_n 2, 1)), (850, (.aload_n 0, 1)), (851, (.iload_n 3, 1)), (852, (.iconst 1, 1)), (853, (.iadd, 1)), (854, (.iaload, 1)), (855, (.invokevirtual 108, 3)), (858, (.pop, 1)), (859, (.goto 343, 3)), (862, (.aload_n 1, 1))] = true := by decide +kernel
theorem dL_law_841 : decode cL_law 841 = .ok (.iload_n 3, 1) := dkA_at dkA_35 0 rfl
theorem dL_law_842 : decode cL_law 842 = .ok (.iconst 1, 1) := dkA_at dkA_35 1 rfl
theorem dL_law_843 : decode cL_law 843 = .ok (.iadd, 1) := dkA_at dkA_35 2 rfl
theorem dL_law_844 : decode cL_law 844 = .ok (.iaload, 1) := dkA_at dkA_35 3 rfl
theorem dL_law_845 : decode cL_law 845 = .ok (.invokevirtual 105, 3) := dkA_at dkA_35 4 rfl
theorem dL_law_848 : decode cL_law 848 = .ok (.pop, 1) := dkA_at dkA_35 5 rfl
theorem dL_law_849 : decode cL_law 849 = .ok (.aload_n 2, 1) := dkA_at dkA_35 6 rfl
theorem dL_law_850 : decode cL_law 850 = .ok (.aload_n 0, 1) := dkA_at dkA_35 7 rfl
theorem dL_law_851 : decode cL_law 851 = .ok (.iload_n 3, 1) := dkA_at dkA_35 8 rfl
theorem dL_law_852 : decode cL_law 852 = .ok (.iconst 1, 1) := dkA_at dkA_35 9 rfl
theorem dL_law_853 : decode cL_law 853 = .ok (.iadd, 1) := dkA_at dkA_35 10 rfl
theorem dL_law_854 : decode cL_law 854 = .ok (.iaload, 1) := dkA_at dkA_35 11 rfl
theorem dL_law_855 : decode cL_law 855 = .ok (.invokevirtual 108, 3) := dkA_at dkA_35 12 rfl
theorem dL_law_858 : decode cL_law 858 = .ok (.pop, 1) := dkA_at dkA_35 13 rfl
theorem dL_law_859 : decode cL_law 859 = .ok (.goto 343, 3) := dkA_at dkA_35 14 rfl
theorem dL_law_862 : decode cL_law 862 = .ok (.aload_n 1, 1) := dkA_at dkA_35 15 rfl
theorem dkA_36 : dkA cL_law [(863, (.aload_n 0, 1)), (864, (.iload_n 3, 1)), (865, (.iconst 1, 1)), (866, (.iadd, 1)), (867, (.iaload, 1)), (868, (.aload_n 0, 1)), (869, (.iload_n 3, 1)), (870, (.iconst 2, 1)), (871, (.iadd, 1)), (872, (.iaload, 1)), (873, (.invokevirtual 109, 3)), (876, (.pop, 1)), (877, (.aload_n 2, 1)), (878, (.aload_n 0, 1)), (879, (.iload_n 3, 1)), (880, (.iconst 1, 1))] = true := by decide +kernel
theorem dL_law_863 : decode cL_law 863 = .ok (.aload_n 0, 1) := dkA_at dkA_36 0 rfl
theorem dL_law_864 : decode cL_law 864 = .ok (.iload_n 3, 1) := dkA_at dkA_36 1 rfl
theorem dL_law_865 : decode cL_law 865 = .ok (.iconst 1, 1) := dkA_at dkA_36 2 rfl
theorem dL_law_866 : decode cL_law 866 = .ok (.iadd, 1) := dkA_at dkA_36 3 rfl
theorem dL_law_867 : decode cL_law 867 = .ok (.iaload, 1) := dkA_at dkA_36 4 rfl
theorem dL_law_868 : decode cL_law 868 = .ok (.aload_n 0, 1) := dkA_at dkA_36 5 rfl
theorem dL_law_869 : decode cL_law 869 = .ok (.iload_n 3, 1) := dkA_at dkA_36 6 rfl
theorem dL_law_870 : decode cL_law 870 = .ok (.iconst 2, 1) := dkA_at dkA_36 7 rfl
theorem dL_law_871 : decode cL_law 871 = .ok (.iadd, 1) := dkA_at dkA_36 8 rfl
theorem dL_law_872 : decode cL_law 872 = .ok (.iaload, 1) := dkA_at dkA_36 9 rfl
theorem dL_law_873 : decode cL_law 873 = .ok (.invokevirtual 109, 3) := dkA_at dkA_36 10 rfl
theorem dL_law_876 : decode cL_law 876 = .ok (.pop, 1) := dkA_at dkA_36 11 rfl
theorem dL_law_877 : decode cL_law 877 = .ok (.aload_n 2, 1) := dkA_at dkA_36 12 rfl
theorem dL_law_878 : decode cL_law 878 = .ok (.aload_n 0, 1) := dkA_at dkA_36 13 rfl
theorem dL_law_879 : decode cL_law 879 = .ok (.iload_n 3, 1) := dkA_at dkA_36 14 rfl
theorem dL_law_880 : decode cL_law 880 = .ok (.iconst 1, 1) := dkA_at dkA_36 15 rfl
theorem dkA_37 : dkA cL_law [(881, (.iadd, 1)), (882, (.iaload, 1)), (883, (.aload_n 0, 1)), (884, (.iload_n 3, 1)), (885, (.iconst 2, 1)), (886, (.iadd, 1)), (887, (.iaload, 1)), (888, (.invokevirtual 112, 3)), (891, (.pop, 1)), (892, (.goto 310, 3)), (895, (.aload_n 1, 1)), (896, (.invokevirtual 113, 3)), (899, (.pop, 1)), (900, (.aload_n 2, 1)), (901, (.invokevirtual 116, 3)), (904, (.pop, 1))] = true := by decide +kernel
theorem dL_law_881 : decode cL_law 881 = .ok (.iadd, 1) := dkA_at dkA_37 0 rfl
theorem dL_law_882 : decode cL_law 882 = .ok (.iaload, 1) := dkA_at dkA_37 1 rfl
theorem dL_law_883 : decode cL_law 883 = .ok (.aload_n 0, 1) := dkA_at dkA_37 2 rfl
theorem dL_law_884 : decode cL_law 884 = .ok (.iload_n 3, 1) := dkA_at dkA_37 3 rfl
theorem dL_law_885 : decode cL_law 885 = .ok (.iconst 2, 1) := dkA_at dkA_37 4 rfl
theorem dL_law_886 : decode cL_law 886 = .ok (.iadd, 1) := dkA_at dkA_37 5 rfl
theorem dL_law_887 : decode cL_law 887 = .ok (.iaload, 1) := dkA_at dkA_37 6 rfl
theorem dL_law_888 : decode cL_law 888 = .ok (.invokevirtual 112, 3) := dkA_at dkA_37 7 rfl
theorem dL_law_891 : decode cL_law 891 = .ok (.pop, 1) := dkA_at dkA_37 8 rfl
theorem dL_law_892 : decode cL_law 892 = .ok (.goto 310, 3) := dkA_at dkA_37 9 rfl
theorem dL_law_895 : decode cL_law 895 = .ok (.aload_n 1, 1) := dkA_at dkA_37 10 rfl
theorem dL_law_896 : decode cL_law 896 = .ok (.invokevirtual 113, 3) := dkA_at dkA_37 11 rfl
theorem dL_law_899 : decode cL_law 899 = .ok (.pop, 1) := dkA_at dkA_37 12 rfl
theorem dL_law_900 : decode cL_law 900 = .ok (.aload_n 2, 1) := dkA_at dkA_37 13 rfl
theorem dL_law_901 : decode cL_law 901 = .ok (.invokevirtual 116, 3) := dkA_at dkA_37 14 rfl
theorem dL_law_904 : decode cL_law 904 = .ok (.pop, 1) := dkA_at dkA_37 15 rfl
theorem dkA_38 : dkA cL_law [(905, (.goto 297, 3)), (908, (.aload_n 1, 1)), (909, (.aload_n 0, 1)), (910, (.iload_n 3, 1)), (911, (.iconst 1, 1)), (912, (.iadd, 1)), (913, (.iaload, 1)), (914, (.aload_n 0, 1)), (915, (.iload_n 3, 1)), (916, (.iconst 2, 1)), (917, (.iadd, 1)), (918, (.iaload, 1)), (919, (.invokevirtual 117, 3)), (922, (.pop, 1)), (923, (.aload_n 2, 1)), (924, (.aload_n 0, 1))] = true := by decide +kernel
theorem dL_law_905 : decode cL_law 905 = .ok (.goto 297, 3) := dkA_at dkA_38 0 rfl
theorem dL_law_908 : decode cL_law 908 = .ok (.aload_n 1, 1) := dkA_at dkA_38 1 rfl
theorem dL_law_909 : decode cL_law 909 = .ok (.aload_n 0, 1) := dkA_at dkA_38 2 rfl
theorem dL_law_910 : decode cL_law 910 = .ok (.iload_n 3, 1) := dkA_at dkA_38 3 rfl
theorem dL_law_911 : decode cL_law 911 = .ok (.iconst 1, 1) := dkA_at dkA_38 4 rfl
theorem dL_law_912 : decode cL_law 912 = .ok (.iadd, 1) := dkA_at dkA_38 5 rfl
theorem dL_law_913 : decode cL_law 913 = .ok (.iaload, 1) := dkA_at dkA_38 6 rfl
theorem dL_law_914 : decode cL_law 914 = .ok (.aload_n 0, 1) := dkA_at dkA_38 7 rfl
theorem dL_law_915 : decode cL_law 915 = .ok (.iload_n 3, 1) := dkA_at dkA_38 8 rfl
theorem dL_law_916 : decode cL_law 916 = .ok (.iconst 2, 1) := dkA_at dkA_38 9 rfl
theorem dL_law_917 : decode cL_law 917 = .ok (.iadd, 1) := dkA_at dkA_38 10 rfl
theorem dL_law_918 : decode cL_law 918 = .ok (.iaload, 1) := dkA_at dkA_38 11 rfl
theorem dL_law_919 : decode cL_law 919 = .ok (.invokevirtual 117, 3) := dkA_at dkA_38 12 rfl
theorem dL_law_922 : decode cL_law 922 = .ok (.pop, 1) := dkA_at dkA_38 13 rfl
theorem dL_law_923 : decode cL_law 923 = .ok (.aload_n 2, 1) := dkA_at dkA_38 14 rfl
theorem dL_law_924 : decode cL_law 924 = .ok (.aload_n 0, 1) := dkA_at dkA_38 15 rfl
theorem dkA_39 : dkA cL_law [(925, (.iload_n 3, 1)), (926, (.iconst 1, 1)), (927, (.iadd, 1)), (928, (.iaload, 1)), (929, (.aload_n 0, 1)), (930, (.iload_n 3, 1)), (931, (.iconst 2, 1)), (932, (.iadd, 1)), (933, (.iaload, 1)), (934, (.invokevirtual 120, 3)), (937, (.pop, 1)), (938, (.goto 264, 3)), (941, (.aload_n 1, 1)), (942, (.invokevirtual 121, 3)), (945, (.pop, 1)), (946, (.aload_n 2, 1))] = true := by decide +kernel
theorem dL_law_925 : decode cL_law 925 = .ok (.iload_n 3, 1) := dkA_at dkA_39 0 rfl
theorem dL_law_926 : decode cL_law 926 = .ok (.iconst 1, 1) := dkA_at dkA_39 1 rfl
theorem dL_law_927 : decode cL_law 927 = .ok (.iadd, 1) := dkA_at dkA_39 2 rfl
theorem dL_law_928 : decode cL_law 928 = .ok (.iaload, 1) := dkA_at dkA_39 3 rfl
theorem dL_law_929 : decode cL_law 929 = .ok (.aload_n 0, 1) := dkA_at dkA_39 4 rfl
theorem dL_law_930 : decode cL_law 930 = .ok (.iload_n 3, 1) := dkA_at dkA_39 5 rfl
theorem dL_law_931 : decode cL_law 931 = .ok (.iconst 2, 1) := dkA_at dkA_39 6 rfl
theorem dL_law_932 : decode cL_law 932 = .ok (.iadd, 1) := dkA_at dkA_39 7 rfl
theorem dL_law_933 : decode cL_law 933 = .ok (.iaload, 1) := dkA_at dkA_39 8 rfl
theorem dL_law_934 : decode cL_law 934 = .ok (.invokevirtual 120, 3) := dkA_at dkA_39 9 rfl
theorem dL_law_937 : decode cL_law 937 = .ok (.pop, 1) := dkA_at dkA_39 10 rfl
theorem dL_law_938 : decode cL_law 938 = .ok (.goto 264, 3) := dkA_at dkA_39 11 rfl
theorem dL_law_941 : decode cL_law 941 = .ok (.aload_n 1, 1) := dkA_at dkA_39 12 rfl
theorem dL_law_942 : decode cL_law 942 = .ok (.invokevirtual 121, 3) := dkA_at dkA_39 13 rfl
theorem dL_law_945 : decode cL_law 945 = .ok (.pop, 1) := dkA_at dkA_39 14 rfl
theorem dL_law_946 : decode cL_law 946 = .ok (.aload_n 2, 1) := dkA_at dkA_39 15 rfl
theorem dkA_40 : dkA cL_law [(947, (.invokevirtual 124, 3)), (950, (.pop, 1)), (951, (.goto 251, 3)), (954, (.aload_n 1, 1)), (955, (.invokevirtual 125, 3)), (958, (.pop, 1)), (959, (.aload_n 2, 1)), (960, (.invokevirtual 128, 3)), (963, (.pop, 1)), (964, (.goto 238, 3)), (967, (.aload_n 1, 1)), (968, (.aload_n 0, 1)), (969, (.iload_n 3, 1)), (970, (.iconst 1, 1)), (971, (.iadd, 1)), (972, (.iaload, 1))] = true := by decide +kernel
theorem dL_law_947 : decode cL_law 947 = .ok (.invokevirtual 124, 3) := dkA_at dkA_40 0 rfl
theorem dL_law_950 : decode cL_law 950 = .ok (.pop, 1) := dkA_at dkA_40 1 rfl
theorem dL_law_951 : decode cL_law 951 = .ok (.goto 251, 3) := dkA_at dkA_40 2 rfl
theorem dL_law_954 : decode cL_law 954 = .ok (.aload_n 1, 1) := dkA_at dkA_40 3 rfl
theorem dL_law_955 : decode cL_law 955 = .ok (.invokevirtual 125, 3) := dkA_at dkA_40 4 rfl
theorem dL_law_958 : decode cL_law 958 = .ok (.pop, 1) := dkA_at dkA_40 5 rfl
theorem dL_law_959 : decode cL_law 959 = .ok (.aload_n 2, 1) := dkA_at dkA_40 6 rfl
theorem dL_law_960 : decode cL_law 960 = .ok (.invokevirtual 128, 3) := dkA_at dkA_40 7 rfl
theorem dL_law_963 : decode cL_law 963 = .ok (.pop, 1) := dkA_at dkA_40 8 rfl
theorem dL_law_964 : decode cL_law 964 = .ok (.goto 238, 3) := dkA_at dkA_40 9 rfl
theorem dL_law_967 : decode cL_law 967 = .ok (.aload_n 1, 1) := dkA_at dkA_40 10 rfl
theorem dL_law_968 : decode cL_law 968 = .ok (.aload_n 0, 1) := dkA_at dkA_40 11 rfl
theorem dL_law_969 : decode cL_law 969 = .ok (.iload_n 3, 1) := dkA_at dkA_40 12 rfl
theorem dL_law_970 : decode cL_law 970 = .ok (.iconst 1, 1) := dkA_at dkA_40 13 rfl
theorem dL_law_971 : decode cL_law 971 = .ok (.iadd, 1) := dkA_at dkA_40 14 rfl
theorem dL_law_972 : decode cL_law 972 = .ok (.iaload, 1) := dkA_at dkA_40 15 rfl
theorem dkA_41 : dkA cL_law [(973, (.invokevirtual 129, 3)), (976, (.aload_n 2, 1)), (977, (.aload_n 0, 1)), (978, (.iload_n 3, 1)), (979, (.iconst 1, 1)), (980, (.iadd, 1)), (981, (.iaload, 1)), (982, (.invokevirtual 132, 3)), (985, (.if_icmp .eq 217, 3)), (988, (.iconst 0, 1)), (989, (.ireturn, 1)), (990, (.aload_n 1, 1)), (991, (.aload_n 0, 1)), (992, (.iload_n 3, 1)), (993, (.iconst 1, 1)), (994, (.iadd, 1))] = true := by decide +kernel
theorem dL_law_973 : decode cL_law 973 = .ok (.invokevirtual 129, 3) := dkA_at dkA_41 0 rfl
theorem dL_law_976 : decode cL_law 976 = .ok (.aload_n 2, 1) := dkA_at dkA_41 1 rfl
theorem dL_law_977 : decode cL_law 977 = .ok (.aload_n 0, 1) := dkA_at dkA_41 2 rfl
theorem dL_law_978 : decode cL_law 978 = .ok (.iload_n 3, 1) := dkA_at dkA_41 3 rfl
theorem dL_law_979 : decode cL_law 979 = .ok (.iconst 1, 1) := dkA_at dkA_41 4 rfl
theorem dL_law_980 : decode cL_law 980 = .ok (.iadd, 1) := dkA_at dkA_41 5 rfl
theorem dL_law_981 : decode cL_law 981 = .ok (.iaload, 1) := dkA_at dkA_41 6 rfl
theorem dL_law_982 : decode cL_law 982 = .ok (.invokevirtual 132, 3) := dkA_at dkA_41 7 rfl
theorem dL_law_985 : decode cL_law 985 = .ok (.if_icmp .eq 217, 3) := dkA_at dkA_41 8 rfl
theorem dL_law_988 : decode cL_law 988 = .ok (.iconst 0, 1) := dkA_at dkA_41 9 rfl
theorem dL_law_989 : decode cL_law 989 = .ok (.ireturn, 1) := dkA_at dkA_41 10 rfl
theorem dL_law_990 : decode cL_law 990 = .ok (.aload_n 1, 1) := dkA_at dkA_41 11 rfl
theorem dL_law_991 : decode cL_law 991 = .ok (.aload_n 0, 1) := dkA_at dkA_41 12 rfl
theorem dL_law_992 : decode cL_law 992 = .ok (.iload_n 3, 1) := dkA_at dkA_41 13 rfl
theorem dL_law_993 : decode cL_law 993 = .ok (.iconst 1, 1) := dkA_at dkA_41 14 rfl
theorem dL_law_994 : decode cL_law 994 = .ok (.iadd, 1) := dkA_at dkA_41 15 rfl
theorem dkA_42 : dkA cL_law [(995, (.iaload, 1)), (996, (.aload_n 0, 1)), (997, (.iload_n 3, 1)), (998, (.iconst 2, 1)), (999, (.iadd, 1)), (1000, (.iaload, 1)), (1001, (.aload_n 0, 1)), (1002, (.iload_n 3, 1)), (1003, (.iconst 3, 1)), (1004, (.iadd, 1)), (1005, (.iaload, 1)), (1006, (.invokevirtual 133, 3)), (1009, (.pop, 1)), (1010, (.aload_n 2, 1)), (1011, (.aload_n 0, 1)), (1012, (.iload_n 3, 1))] = true := by decide +kernel
theorem dL_law_995 : decode cL_law 995 = .ok (.iaload, 1) := dkA_at dkA_42 0 rfl
theorem dL_law_996 : decode cL_law 996 = .ok (.aload_n 0, 1) := dkA_at dkA_42 1 rfl
theorem dL_law_997 : decode cL_law 997 = .ok (.iload_n 3, 1) := dkA_at dkA_42 2 rfl
theorem dL_law_998 : decode cL_law 998 = .ok (.iconst 2, 1) := dkA_at dkA_42 3 rfl
theorem dL_law_999 : decode cL_law 999 = .ok (.iadd, 1) := dkA_at dkA_42 4 rfl
theorem dL_law_1000 : decode cL_law 1000 = .ok (.iaload, 1) := dkA_at dkA_42 5 rfl
theorem dL_law_1001 : decode cL_law 1001 = .ok (.aload_n 0, 1) := dkA_at dkA_42 6 rfl
theorem dL_law_1002 : decode cL_law 1002 = .ok (.iload_n 3, 1) := dkA_at dkA_42 7 rfl
theorem dL_law_1003 : decode cL_law 1003 = .ok (.iconst 3, 1) := dkA_at dkA_42 8 rfl
theorem dL_law_1004 : decode cL_law 1004 = .ok (.iadd, 1) := dkA_at dkA_42 9 rfl
theorem dL_law_1005 : decode cL_law 1005 = .ok (.iaload, 1) := dkA_at dkA_42 10 rfl
theorem dL_law_1006 : decode cL_law 1006 = .ok (.invokevirtual 133, 3) := dkA_at dkA_42 11 rfl
theorem dL_law_1009 : decode cL_law 1009 = .ok (.pop, 1) := dkA_at dkA_42 12 rfl
theorem dL_law_1010 : decode cL_law 1010 = .ok (.aload_n 2, 1) := dkA_at dkA_42 13 rfl
theorem dL_law_1011 : decode cL_law 1011 = .ok (.aload_n 0, 1) := dkA_at dkA_42 14 rfl
theorem dL_law_1012 : decode cL_law 1012 = .ok (.iload_n 3, 1) := dkA_at dkA_42 15 rfl
theorem dkA_43 : dkA cL_law [(1013, (.iconst 1, 1)), (1014, (.iadd, 1)), (1015, (.iaload, 1)), (1016, (.aload_n 0, 1)), (1017, (.iload_n 3, 1)), (1018, (.iconst 2, 1)), (1019, (.iadd, 1)), (1020, (.iaload, 1)), (1021, (.aload_n 0, 1)), (1022, (.iload_n 3, 1)), (1023, (.iconst 3, 1)), (1024, (.iadd, 1)), (1025, (.iaload, 1)), (1026, (.invokevirtual 136, 3)), (1029, (.pop, 1)), (1030, (.goto 172, 3))] = true := by decide +kernel
theorem dL_law_1013 : decode cL_law 1013 = .ok (.iconst 1, 1) := dkA_at dkA_43 0 rfl
theorem dL_law_1014 : decode cL_law 1014 = .ok (.iadd, 1) := dkA_at dkA_43 1 rfl
theorem dL_law_1015 : decode cL_law 1015 = .ok (.iaload, 1) := dkA_at dkA_43 2 rfl
theorem dL_law_1016 : decode cL_law 1016 = .ok (.aload_n 0, 1) := dkA_at dkA_43 3 rfl
theorem dL_law_1017 : decode cL_law 1017 = .ok (.iload_n 3, 1) := dkA_at dkA_43 4 rfl
theorem dL_law_1018 : decode cL_law 1018 = .ok (.iconst 2, 1) := dkA_at dkA_43 5 rfl
theorem dL_law_1019 : decode cL_law 1019 = .ok (.iadd, 1) := dkA_at dkA_43 6 rfl
theorem dL_law_1020 : decode cL_law 1020 = .ok (.iaload, 1) := dkA_at dkA_43 7 rfl
theorem dL_law_1021 : decode cL_law 1021 = .ok (.aload_n 0, 1) := dkA_at dkA_43 8 rfl
theorem dL_law_1022 : decode cL_law 1022 = .ok (.iload_n 3, 1) := dkA_at dkA_43 9 rfl
theorem dL_law_1023 : decode cL_law 1023 = .ok (.iconst 3, 1) := dkA_at dkA_43 10 rfl
theorem dL_law_1024 : decode cL_law 1024 = .ok (.iadd, 1) := dkA_at dkA_43 11 rfl
theorem dL_law_1025 : decode cL_law 1025 = .ok (.iaload, 1) := dkA_at dkA_43 12 rfl
theorem dL_law_1026 : decode cL_law 1026 = .ok (.invokevirtual 136, 3) := dkA_at dkA_43 13 rfl
theorem dL_law_1029 : decode cL_law 1029 = .ok (.pop, 1) := dkA_at dkA_43 14 rfl
theorem dL_law_1030 : decode cL_law 1030 = .ok (.goto 172, 3) := dkA_at dkA_43 15 rfl
theorem dkA_44 : dkA cL_law [(1033, (.aload_n 1, 1)), (1034, (.aload_n 0, 1)), (1035, (.iload_n 3, 1)), (1036, (.iconst 1, 1)), (1037, (.iadd, 1)), (1038, (.iaload, 1)), (1039, (.aload_n 0, 1)), (1040, (.iload_n 3, 1)), (1041, (.iconst 2, 1)), (1042, (.iadd, 1)), (1043, (.iaload, 1)), (1044, (.aload_n 0, 1)), (1045, (.iload_n 3, 1)), (1046, (.iconst 3, 1)), (1047, (.iadd, 1)), (1048, (.iaload, 1))] = true := by decide +kernel
theorem dL_law_1033 : decode cL_law 1033 = .ok (.aload_n 1, 1) := dkA_at dkA_44 0 rfl
theorem dL_law_1034 : decode cL_law 1034 = .ok (.aload_n 0, 1) := dkA_at dkA_44 1 rfl
theorem dL_law_1035 : decode cL_law 1035 = .ok (.iload_n 3, 1) := dkA_at dkA_44 2 rfl
theorem dL_law_1036 : decode cL_law 1036 = .ok (.iconst 1, 1) := dkA_at dkA_44 3 rfl
theorem dL_law_1037 : decode cL_law 1037 = .ok (.iadd, 1) := dkA_at dkA_44 4 rfl
theorem dL_law_1038 : decode cL_law 1038 = .ok (.iaload, 1) := dkA_at dkA_44 5 rfl
theorem dL_law_1039 : decode cL_law 1039 = .ok (.aload_n 0, 1) := dkA_at dkA_44 6 rfl
theorem dL_law_1040 : decode cL_law 1040 = .ok (.iload_n 3, 1) := dkA_at dkA_44 7 rfl
theorem dL_law_1041 : decode cL_law 1041 = .ok (.iconst 2, 1) := dkA_at dkA_44 8 rfl
theorem dL_law_1042 : decode cL_law 1042 = .ok (.iadd, 1) := dkA_at dkA_44 9 rfl
theorem dL_law_1043 : decode cL_law 1043 = .ok (.iaload, 1) := dkA_at dkA_44 10 rfl
theorem dL_law_1044 : decode cL_law 1044 = .ok (.aload_n 0, 1) := dkA_at dkA_44 11 rfl
theorem dL_law_1045 : decode cL_law 1045 = .ok (.iload_n 3, 1) := dkA_at dkA_44 12 rfl
theorem dL_law_1046 : decode cL_law 1046 = .ok (.iconst 3, 1) := dkA_at dkA_44 13 rfl
theorem dL_law_1047 : decode cL_law 1047 = .ok (.iadd, 1) := dkA_at dkA_44 14 rfl
theorem dL_law_1048 : decode cL_law 1048 = .ok (.iaload, 1) := dkA_at dkA_44 15 rfl
theorem dkA_45 : dkA cL_law [(1049, (.i2l, 1)), (1050, (.bipush 32, 2)), (1052, (.lshl, 1)), (1053, (.aload_n 0, 1)), (1054, (.iload_n 3, 1)), (1055, (.iconst 4, 1)), (1056, (.iadd, 1)), (1057, (.iaload, 1)), (1058, (.i2l, 1)), (1059, (.ldc2_w 137, 3)), (1062, (.land, 1)), (1063, (.lor, 1)), (1064, (.invokevirtual 139, 3)), (1067, (.pop, 1)), (1068, (.aload_n 2, 1)), (1069, (.aload_n 0, 1))] = true := by decide +kernel
theorem dL_law_1049 : decode cL_law 1049 = .ok (.i2l, 1) := dkA_at dkA_45 0 rfl
theorem dL_law_1050 : decode cL_law 1050 = .ok (.bipush 32, 2) := dkA_at dkA_45 1 rfl
theorem dL_law_1052 : decode cL_law 1052 = .ok (.lshl, 1) := dkA_at dkA_45 2 rfl
theorem dL_law_1053 : decode cL_law 1053 = .ok (.aload_n 0, 1) := dkA_at dkA_45 3 rfl
theorem dL_law_1054 : decode cL_law 1054 = .ok (.iload_n 3, 1) := dkA_at dkA_45 4 rfl
theorem dL_law_1055 : decode cL_law 1055 = .ok (.iconst 4, 1) := dkA_at dkA_45 5 rfl
theorem dL_law_1056 : decode cL_law 1056 = .ok (.iadd, 1) := dkA_at dkA_45 6 rfl
theorem dL_law_1057 : decode cL_law 1057 = .ok (.iaload, 1) := dkA_at dkA_45 7 rfl
theorem dL_law_1058 : decode cL_law 1058 = .ok (.i2l, 1) := dkA_at dkA_45 8 rfl
theorem dL_law_1059 : decode cL_law 1059 = .ok (.ldc2_w 137, 3) := dkA_at dkA_45 9 rfl
theorem dL_law_1062 : decode cL_law 1062 = .ok (.land, 1) := dkA_at dkA_45 10 rfl
theorem dL_law_1063 : decode cL_law 1063 = .ok (.lor, 1) := dkA_at dkA_45 11 rfl
theorem dL_law_1064 : decode cL_law 1064 = .ok (.invokevirtual 139, 3) := dkA_at dkA_45 12 rfl
theorem dL_law_1067 : decode cL_law 1067 = .ok (.pop, 1) := dkA_at dkA_45 13 rfl
theorem dL_law_1068 : decode cL_law 1068 = .ok (.aload_n 2, 1) := dkA_at dkA_45 14 rfl
theorem dL_law_1069 : decode cL_law 1069 = .ok (.aload_n 0, 1) := dkA_at dkA_45 15 rfl
theorem dkA_46 : dkA cL_law [(1070, (.iload_n 3, 1)), (1071, (.iconst 1, 1)), (1072, (.iadd, 1)), (1073, (.iaload, 1)), (1074, (.aload_n 0, 1)), (1075, (.iload_n 3, 1)), (1076, (.iconst 2, 1)), (1077, (.iadd, 1)), (1078, (.iaload, 1)), (1079, (.aload_n 0, 1)), (1080, (.iload_n 3, 1)), (1081, (.iconst 3, 1)), (1082, (.iadd, 1)), (1083, (.iaload, 1)), (1084, (.i2l, 1)), (1085, (.bipush 32, 2))] = true := by decide +kernel
theorem dL_law_1070 : decode cL_law 1070 = .ok (.iload_n 3, 1) := dkA_at dkA_46 0 rfl
theorem dL_law_1071 : decode cL_law 1071 = .ok (.iconst 1, 1) := dkA_at dkA_46 1 rfl
theorem dL_law_1072 : decode cL_law 1072 = .ok (.iadd, 1) := dkA_at dkA_46 2 rfl
theorem dL_law_1073 : decode cL_law 1073 = .ok (.iaload, 1) := dkA_at dkA_46 3 rfl
theorem dL_law_1074 : decode cL_law 1074 = .ok (.aload_n 0, 1) := dkA_at dkA_46 4 rfl
theorem dL_law_1075 : decode cL_law 1075 = .ok (.iload_n 3, 1) := dkA_at dkA_46 5 rfl
theorem dL_law_1076 : decode cL_law 1076 = .ok (.iconst 2, 1) := dkA_at dkA_46 6 rfl
theorem dL_law_1077 : decode cL_law 1077 = .ok (.iadd, 1) := dkA_at dkA_46 7 rfl
theorem dL_law_1078 : decode cL_law 1078 = .ok (.iaload, 1) := dkA_at dkA_46 8 rfl
theorem dL_law_1079 : decode cL_law 1079 = .ok (.aload_n 0, 1) := dkA_at dkA_46 9 rfl
theorem dL_law_1080 : decode cL_law 1080 = .ok (.iload_n 3, 1) := dkA_at dkA_46 10 rfl
theorem dL_law_1081 : decode cL_law 1081 = .ok (.iconst 3, 1) := dkA_at dkA_46 11 rfl
theorem dL_law_1082 : decode cL_law 1082 = .ok (.iadd, 1) := dkA_at dkA_46 12 rfl
theorem dL_law_1083 : decode cL_law 1083 = .ok (.iaload, 1) := dkA_at dkA_46 13 rfl
theorem dL_law_1084 : decode cL_law 1084 = .ok (.i2l, 1) := dkA_at dkA_46 14 rfl
theorem dL_law_1085 : decode cL_law 1085 = .ok (.bipush 32, 2) := dkA_at dkA_46 15 rfl
theorem dkA_47 : dkA cL_law [(1087, (.lshl, 1)), (1088, (.aload_n 0, 1)), (1089, (.iload_n 3, 1)), (1090, (.iconst 4, 1)), (1091, (.iadd, 1)), (1092, (.iaload, 1)), (1093, (.i2l, 1)), (1094, (.ldc2_w 137, 3)), (1097, (.land, 1)), (1098, (.lor, 1)), (1099, (.invokevirtual 143, 3)), (1102, (.pop, 1)), (1103, (.goto 99, 3)), (1106, (.aload_n 1, 1)), (1107, (.aload_n 0, 1)), (1108, (.iload_n 3, 1))] = true := by decide +kernel
theorem dL_law_1087 : decode cL_law 1087 = .ok (.lshl, 1) := dkA_at dkA_47 0 rfl
theorem dL_law_1088 : decode cL_law 1088 = .ok (.aload_n 0, 1) := dkA_at dkA_47 1 rfl
theorem dL_law_1089 : decode cL_law 1089 = .ok (.iload_n 3, 1) := dkA_at dkA_47 2 rfl
theorem dL_law_1090 : decode cL_law 1090 = .ok (.iconst 4, 1) := dkA_at dkA_47 3 rfl
theorem dL_law_1091 : decode cL_law 1091 = .ok (.iadd, 1) := dkA_at dkA_47 4 rfl
theorem dL_law_1092 : decode cL_law 1092 = .ok (.iaload, 1) := dkA_at dkA_47 5 rfl
theorem dL_law_1093 : decode cL_law 1093 = .ok (.i2l, 1) := dkA_at dkA_47 6 rfl
theorem dL_law_1094 : decode cL_law 1094 = .ok (.ldc2_w 137, 3) := dkA_at dkA_47 7 rfl
theorem dL_law_1097 : decode cL_law 1097 = .ok (.land, 1) := dkA_at dkA_47 8 rfl
theorem dL_law_1098 : decode cL_law 1098 = .ok (.lor, 1) := dkA_at dkA_47 9 rfl
theorem dL_law_1099 : decode cL_law 1099 = .ok (.invokevirtual 143, 3) := dkA_at dkA_47 10 rfl
theorem dL_law_1102 : decode cL_law 1102 = .ok (.pop, 1) := dkA_at dkA_47 11 rfl
theorem dL_law_1103 : decode cL_law 1103 = .ok (.goto 99, 3) := dkA_at dkA_47 12 rfl
theorem dL_law_1106 : decode cL_law 1106 = .ok (.aload_n 1, 1) := dkA_at dkA_47 13 rfl
theorem dL_law_1107 : decode cL_law 1107 = .ok (.aload_n 0, 1) := dkA_at dkA_47 14 rfl
theorem dL_law_1108 : decode cL_law 1108 = .ok (.iload_n 3, 1) := dkA_at dkA_47 15 rfl
theorem dkA_48 : dkA cL_law [(1109, (.iconst 1, 1)), (1110, (.iadd, 1)), (1111, (.iaload, 1)), (1112, (.aload_n 0, 1)), (1113, (.iload_n 3, 1)), (1114, (.iconst 2, 1)), (1115, (.iadd, 1)), (1116, (.iaload, 1)), (1117, (.invokevirtual 144, 3)), (1120, (.pop2, 1)), (1121, (.aload_n 2, 1)), (1122, (.aload_n 0, 1)), (1123, (.iload_n 3, 1)), (1124, (.iconst 1, 1)), (1125, (.iadd, 1)), (1126, (.iaload, 1))] = true := by decide +kernel
theorem dL_law_1109 : decode cL_law 1109 = .ok (.iconst 1, 1) := dkA_at dkA_48 0 rfl
theorem dL_law_1110 : decode cL_law 1110 = .ok (.iadd, 1) := dkA_at dkA_48 1 rfl
theorem dL_law_1111 : decode cL_law 1111 = .ok (.iaload, 1) := dkA_at dkA_48 2 rfl
theorem dL_law_1112 : decode cL_law 1112 = .ok (.aload_n 0, 1) := dkA_at dkA_48 3 rfl
theorem dL_law_1113 : decode cL_law 1113 = .ok (.iload_n 3, 1) := dkA_at dkA_48 4 rfl
theorem dL_law_1114 : decode cL_law 1114 = .ok (.iconst 2, 1) := dkA_at dkA_48 5 rfl
theorem dL_law_1115 : decode cL_law 1115 = .ok (.iadd, 1) := dkA_at dkA_48 6 rfl
theorem dL_law_1116 : decode cL_law 1116 = .ok (.iaload, 1) := dkA_at dkA_48 7 rfl
theorem dL_law_1117 : decode cL_law 1117 = .ok (.invokevirtual 144, 3) := dkA_at dkA_48 8 rfl
theorem dL_law_1120 : decode cL_law 1120 = .ok (.pop2, 1) := dkA_at dkA_48 9 rfl
theorem dL_law_1121 : decode cL_law 1121 = .ok (.aload_n 2, 1) := dkA_at dkA_48 10 rfl
theorem dL_law_1122 : decode cL_law 1122 = .ok (.aload_n 0, 1) := dkA_at dkA_48 11 rfl
theorem dL_law_1123 : decode cL_law 1123 = .ok (.iload_n 3, 1) := dkA_at dkA_48 12 rfl
theorem dL_law_1124 : decode cL_law 1124 = .ok (.iconst 1, 1) := dkA_at dkA_48 13 rfl
theorem dL_law_1125 : decode cL_law 1125 = .ok (.iadd, 1) := dkA_at dkA_48 14 rfl
theorem dL_law_1126 : decode cL_law 1126 = .ok (.iaload, 1) := dkA_at dkA_48 15 rfl
theorem dkA_49 : dkA cL_law [(1127, (.aload_n 0, 1)), (1128, (.iload_n 3, 1)), (1129, (.iconst 2, 1)), (1130, (.iadd, 1)), (1131, (.iaload, 1)), (1132, (.invokevirtual 147, 3)), (1135, (.pop2, 1)), (1136, (.goto 66, 3)), (1139, (.aload_n 1, 1)), (1140, (.aload_n 0, 1)), (1141, (.iload_n 3, 1)), (1142, (.iconst 1, 1)), (1143, (.iadd, 1)), (1144, (.iaload, 1)), (1145, (.aload_n 0, 1)), (1146, (.iload_n 3, 1))] = true := by decide +kernel
theorem dL_law_1127 : decode cL_law 1127 = .ok (.aload_n 0, 1) := dkA_at dkA_49 0 rfl
theorem dL_law_1128 : decode cL_law 1128 = .ok (.iload_n 3, 1) := dkA_at dkA_49 1 rfl
theorem dL_law_1129 : decode cL_law 1129 = .ok (.iconst 2, 1) := dkA_at dkA_49 2 rfl
theorem dL_law_1130 : decode cL_law 1130 = .ok (.iadd, 1) := dkA_at dkA_49 3 rfl
theorem dL_law_1131 : decode cL_law 1131 = .ok (.iaload, 1) := dkA_at dkA_49 4 rfl
theorem dL_law_1132 : decode cL_law 1132 = .ok (.invokevirtual 147, 3) := dkA_at dkA_49 5 rfl
theorem dL_law_1135 : decode cL_law 1135 = .ok (.pop2, 1) := dkA_at dkA_49 6 rfl
theorem dL_law_1136 : decode cL_law 1136 = .ok (.goto 66, 3) := dkA_at dkA_49 7 rfl
theorem dL_law_1139 : decode cL_law 1139 = .ok (.aload_n 1, 1) := dkA_at dkA_49 8 rfl
theorem dL_law_1140 : decode cL_law 1140 = .ok (.aload_n 0, 1) := dkA_at dkA_49 9 rfl
theorem dL_law_1141 : decode cL_law 1141 = .ok (.iload_n 3, 1) := dkA_at dkA_49 10 rfl
theorem dL_law_1142 : decode cL_law 1142 = .ok (.iconst 1, 1) := dkA_at dkA_49 11 rfl
theorem dL_law_1143 : decode cL_law 1143 = .ok (.iadd, 1) := dkA_at dkA_49 12 rfl
theorem dL_law_1144 : decode cL_law 1144 = .ok (.iaload, 1) := dkA_at dkA_49 13 rfl
theorem dL_law_1145 : decode cL_law 1145 = .ok (.aload_n 0, 1) := dkA_at dkA_49 14 rfl
theorem dL_law_1146 : decode cL_law 1146 = .ok (.iload_n 3, 1) := dkA_at dkA_49 15 rfl
theorem dkA_50 : dkA cL_law [(1147, (.iconst 2, 1)), (1148, (.iadd, 1)), (1149, (.iaload, 1)), (1150, (.aload_n 0, 1)), (1151, (.iload_n 3, 1)), (1152, (.iconst 3, 1)), (1153, (.iadd, 1)), (1154, (.iaload, 1)), (1155, (.aload_n 0, 1)), (1156, (.iload_n 3, 1)), (1157, (.iconst 4, 1)), (1158, (.iadd, 1)), (1159, (.iaload, 1)), (1160, (.aload_n 0, 1)), (1161, (.iload_n 3, 1)), (1162, (.iconst 5, 1))] = true := by decide +kernel
theorem dL_law_1147 : decode cL_law 1147 = .ok (.iconst 2, 1) := dkA_at dkA_50 0 rfl
theorem dL_law_1148 : decode cL_law 1148 = .ok (.iadd, 1) := dkA_at dkA_50 1 rfl
theorem dL_law_1149 : decode cL_law 1149 = .ok (.iaload, 1) := dkA_at dkA_50 2 rfl
theorem dL_law_1150 : decode cL_law 1150 = .ok (.aload_n 0, 1) := dkA_at dkA_50 3 rfl
theorem dL_law_1151 : decode cL_law 1151 = .ok (.iload_n 3, 1) := dkA_at dkA_50 4 rfl
theorem dL_law_1152 : decode cL_law 1152 = .ok (.iconst 3, 1) := dkA_at dkA_50 5 rfl
theorem dL_law_1153 : decode cL_law 1153 = .ok (.iadd, 1) := dkA_at dkA_50 6 rfl
theorem dL_law_1154 : decode cL_law 1154 = .ok (.iaload, 1) := dkA_at dkA_50 7 rfl
theorem dL_law_1155 : decode cL_law 1155 = .ok (.aload_n 0, 1) := dkA_at dkA_50 8 rfl
theorem dL_law_1156 : decode cL_law 1156 = .ok (.iload_n 3, 1) := dkA_at dkA_50 9 rfl
theorem dL_law_1157 : decode cL_law 1157 = .ok (.iconst 4, 1) := dkA_at dkA_50 10 rfl
theorem dL_law_1158 : decode cL_law 1158 = .ok (.iadd, 1) := dkA_at dkA_50 11 rfl
theorem dL_law_1159 : decode cL_law 1159 = .ok (.iaload, 1) := dkA_at dkA_50 12 rfl
theorem dL_law_1160 : decode cL_law 1160 = .ok (.aload_n 0, 1) := dkA_at dkA_50 13 rfl
theorem dL_law_1161 : decode cL_law 1161 = .ok (.iload_n 3, 1) := dkA_at dkA_50 14 rfl
theorem dL_law_1162 : decode cL_law 1162 = .ok (.iconst 5, 1) := dkA_at dkA_50 15 rfl
theorem dkA_51 : dkA cL_law [(1163, (.iadd, 1)), (1164, (.iaload, 1)), (1165, (.invokevirtual 148, 3)), (1168, (.pop, 1)), (1169, (.aload_n 2, 1)), (1170, (.aload_n 0, 1)), (1171, (.iload_n 3, 1)), (1172, (.iconst 1, 1)), (1173, (.iadd, 1)), (1174, (.iaload, 1)), (1175, (.aload_n 0, 1)), (1176, (.iload_n 3, 1)), (1177, (.iconst 2, 1)), (1178, (.iadd, 1)), (1179, (.iaload, 1)), (1180, (.aload_n 0, 1))] = true := by decide +kernel
theorem dL_law_1163 : decode cL_law 1163 = .ok (.iadd, 1) := dkA_at dkA_51 0 rfl
theorem dL_law_1164 : decode cL_law 1164 = .ok (.iaload, 1) := dkA_at dkA_51 1 rfl
theorem dL_law_1165 : decode cL_law 1165 = .ok (.invokevirtual 148, 3) := dkA_at dkA_51 2 rfl
theorem dL_law_1168 : decode cL_law 1168 = .ok (.pop, 1) := dkA_at dkA_51 3 rfl
theorem dL_law_1169 : decode cL_law 1169 = .ok (.aload_n 2, 1) := dkA_at dkA_51 4 rfl
theorem dL_law_1170 : decode cL_law 1170 = .ok (.aload_n 0, 1) := dkA_at dkA_51 5 rfl
theorem dL_law_1171 : decode cL_law 1171 = .ok (.iload_n 3, 1) := dkA_at dkA_51 6 rfl
theorem dL_law_1172 : decode cL_law 1172 = .ok (.iconst 1, 1) := dkA_at dkA_51 7 rfl
theorem dL_law_1173 : decode cL_law 1173 = .ok (.iadd, 1) := dkA_at dkA_51 8 rfl
theorem dL_law_1174 : decode cL_law 1174 = .ok (.iaload, 1) := dkA_at dkA_51 9 rfl
theorem dL_law_1175 : decode cL_law 1175 = .ok (.aload_n 0, 1) := dkA_at dkA_51 10 rfl
theorem dL_law_1176 : decode cL_law 1176 = .ok (.iload_n 3, 1) := dkA_at dkA_51 11 rfl
theorem dL_law_1177 : decode cL_law 1177 = .ok (.iconst 2, 1) := dkA_at dkA_51 12 rfl
theorem dL_law_1178 : decode cL_law 1178 = .ok (.iadd, 1) := dkA_at dkA_51 13 rfl
theorem dL_law_1179 : decode cL_law 1179 = .ok (.iaload, 1) := dkA_at dkA_51 14 rfl
theorem dL_law_1180 : decode cL_law 1180 = .ok (.aload_n 0, 1) := dkA_at dkA_51 15 rfl
theorem dkA_52 : dkA cL_law [(1181, (.iload_n 3, 1)), (1182, (.iconst 3, 1)), (1183, (.iadd, 1)), (1184, (.iaload, 1)), (1185, (.aload_n 0, 1)), (1186, (.iload_n 3, 1)), (1187, (.iconst 4, 1)), (1188, (.iadd, 1)), (1189, (.iaload, 1)), (1190, (.aload_n 0, 1)), (1191, (.iload_n 3, 1)), (1192, (.iconst 5, 1)), (1193, (.iadd, 1)), (1194, (.iaload, 1)), (1195, (.invokevirtual 152, 3)), (1198, (.pop, 1))] = true := by decide +kernel
theorem dL_law_1181 : decode cL_law 1181 = .ok (.iload_n 3, 1) := dkA_at dkA_52 0 rfl
theorem dL_law_1182 : decode cL_law 1182 = .ok (.iconst 3, 1) := dkA_at dkA_52 1 rfl
theorem dL_law_1183 : decode cL_law 1183 = .ok (.iadd, 1) := dkA_at dkA_52 2 rfl
theorem dL_law_1184 : decode cL_law 1184 = .ok (.iaload, 1) := dkA_at dkA_52 3 rfl
theorem dL_law_1185 : decode cL_law 1185 = .ok (.aload_n 0, 1) := dkA_at dkA_52 4 rfl
theorem dL_law_1186 : decode cL_law 1186 = .ok (.iload_n 3, 1) := dkA_at dkA_52 5 rfl
theorem dL_law_1187 : decode cL_law 1187 = .ok (.iconst 4, 1) := dkA_at dkA_52 6 rfl
theorem dL_law_1188 : decode cL_law 1188 = .ok (.iadd, 1) := dkA_at dkA_52 7 rfl
theorem dL_law_1189 : decode cL_law 1189 = .ok (.iaload, 1) := dkA_at dkA_52 8 rfl
theorem dL_law_1190 : decode cL_law 1190 = .ok (.aload_n 0, 1) := dkA_at dkA_52 9 rfl
theorem dL_law_1191 : decode cL_law 1191 = .ok (.iload_n 3, 1) := dkA_at dkA_52 10 rfl
theorem dL_law_1192 : decode cL_law 1192 = .ok (.iconst 5, 1) := dkA_at dkA_52 11 rfl
theorem dL_law_1193 : decode cL_law 1193 = .ok (.iadd, 1) := dkA_at dkA_52 12 rfl
theorem dL_law_1194 : decode cL_law 1194 = .ok (.iaload, 1) := dkA_at dkA_52 13 rfl
theorem dL_law_1195 : decode cL_law 1195 = .ok (.invokevirtual 152, 3) := dkA_at dkA_52 14 rfl
theorem dL_law_1198 : decode cL_law 1198 = .ok (.pop, 1) := dkA_at dkA_52 15 rfl
theorem dkA_53 : dkA cL_law [(1199, (.goto 3, 3)), (1202, (.iinc 3 6, 3)), (1205, (.goto (-1187), 3)), (1208, (.iconst 1, 1)), (1209, (.ireturn, 1))] = true := by decide +kernel
theorem dL_law_1199 : decode cL_law 1199 = .ok (.goto 3, 3) := dkA_at dkA_53 0 rfl
theorem dL_law_1202 : decode cL_law 1202 = .ok (.iinc 3 6, 3) := dkA_at dkA_53 1 rfl
theorem dL_law_1205 : decode cL_law 1205 = .ok (.goto (-1187), 3) := dkA_at dkA_53 2 rfl
theorem dL_law_1208 : decode cL_law 1208 = .ok (.iconst 1, 1) := dkA_at dkA_53 3 rfl
theorem dL_law_1209 : decode cL_law 1209 = .ok (.ireturn, 1) := dkA_at dkA_53 4 rfl
