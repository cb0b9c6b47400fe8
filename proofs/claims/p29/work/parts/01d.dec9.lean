/-! decode rows, as the printed names have them -/
theorem dX9_init_0 : decode cX9_init 0 = .ok (.aload_n 0, 1) := by decide +kernel
theorem dX9_init_1 : decode cX9_init 1 = .ok (.invokespecial 3, 3) := by decide +kernel
theorem dX9_init_4 : decode cX9_init 4 = .ok (.aload_n 0, 1) := by decide +kernel
theorem dX9_init_5 : decode cX9_init 5 = .ok (.iconst 4, 1) := by decide +kernel
theorem dX9_init_6 : decode cX9_init 6 = .ok (.putfield 9, 3) := by decide +kernel
theorem dX9_init_9 : decode cX9_init 9 = .ok (.aload_n 0, 1) := by decide +kernel
theorem dX9_init_10 : decode cX9_init 10 = .ok (.iconst 4, 1) := by decide +kernel
theorem dX9_init_11 : decode cX9_init 11 = .ok (.putfield 15, 3) := by decide +kernel
theorem dX9_init_14 : decode cX9_init 14 = .ok (.aload_n 0, 1) := by decide +kernel
theorem dX9_init_15 : decode cX9_init 15 = .ok (.iconst 4, 1) := by decide +kernel
theorem dX9_init_16 : decode cX9_init 16 = .ok (.putfield 18, 3) := by decide +kernel
theorem dX9_init_19 : decode cX9_init 19 = .ok (.aload_n 0, 1) := by decide +kernel
theorem dX9_init_20 : decode cX9_init 20 = .ok (.bipush 6, 2) := by decide +kernel
theorem dX9_init_22 : decode cX9_init 22 = .ok (.newarray .int, 2) := by decide +kernel
theorem dX9_init_24 : decode cX9_init 24 = .ok (.putfield 21, 3) := by decide +kernel
theorem dX9_init_27 : decode cX9_init 27 = .ok (.aload_n 0, 1) := by decide +kernel
theorem dX9_init_28 : decode cX9_init 28 = .ok (.bipush 6, 2) := by decide +kernel
theorem dX9_init_30 : decode cX9_init 30 = .ok (.newarray .long, 2) := by decide +kernel
theorem dX9_init_32 : decode cX9_init 32 = .ok (.putfield 25, 3) := by decide +kernel
theorem dX9_init_35 : decode cX9_init 35 = .ok (.aload_n 0, 1) := by decide +kernel
theorem dX9_init_36 : decode cX9_init 36 = .ok (.bipush 6, 2) := by decide +kernel
theorem dX9_init_38 : decode cX9_init 38 = .ok (.newarray .long, 2) := by decide +kernel
theorem dX9_init_40 : decode cX9_init 40 = .ok (.putfield 29, 3) := by decide +kernel
theorem dX9_init_43 : decode cX9_init 43 = .ok (.aload_n 0, 1) := by decide +kernel
theorem dX9_init_44 : decode cX9_init 44 = .ok (.bipush 6, 2) := by decide +kernel
theorem dX9_init_46 : decode cX9_init 46 = .ok (.newarray .long, 2) := by decide +kernel
theorem dX9_init_48 : decode cX9_init 48 = .ok (.putfield 32, 3) := by decide +kernel
theorem dX9_init_51 : decode cX9_init 51 = .ok (.aload_n 0, 1) := by decide +kernel
theorem dX9_init_52 : decode cX9_init 52 = .ok (.bipush 6, 2) := by decide +kernel
theorem dX9_init_54 : decode cX9_init 54 = .ok (.newarray .long, 2) := by decide +kernel
theorem dX9_init_56 : decode cX9_init 56 = .ok (.putfield 35, 3) := by decide +kernel
theorem dX9_init_59 : decode cX9_init 59 = .ok (.aload_n 0, 1) := by decide +kernel
theorem dX9_init_60 : decode cX9_init 60 = .ok (.iconst 5, 1) := by decide +kernel
theorem dX9_init_61 : decode cX9_init 61 = .ok (.newarray .int, 2) := by decide +kernel
theorem dX9_init_63 : decode cX9_init 63 = .ok (.putfield 38, 3) := by decide +kernel
theorem dX9_init_66 : decode cX9_init 66 = .ok (.aload_n 0, 1) := by decide +kernel
theorem dX9_init_67 : decode cX9_init 67 = .ok (.iconst 5, 1) := by decide +kernel
theorem dX9_init_68 : decode cX9_init 68 = .ok (.newarray .int, 2) := by decide +kernel
theorem dX9_init_70 : decode cX9_init 70 = .ok (.putfield 41, 3) := by decide +kernel
theorem dX9_init_73 : decode cX9_init 73 = .ok (.aload_n 0, 1) := by decide +kernel
theorem dX9_init_74 : decode cX9_init 74 = .ok (.bipush 8, 2) := by decide +kernel
theorem dX9_init_76 : decode cX9_init 76 = .ok (.newarray .int, 2) := by decide +kernel
theorem dX9_init_78 : decode cX9_init 78 = .ok (.putfield 44, 3) := by decide +kernel
theorem dX9_init_81 : decode cX9_init 81 = .ok (.aload_n 0, 1) := by decide +kernel
theorem dX9_init_82 : decode cX9_init 82 = .ok (.bipush 8, 2) := by decide +kernel
theorem dX9_init_84 : decode cX9_init 84 = .ok (.newarray .int, 2) := by decide +kernel
theorem dX9_init_86 : decode cX9_init 86 = .ok (.putfield 47, 3) := by decide +kernel
theorem dX9_init_89 : decode cX9_init 89 = .ok (.aload_n 0, 1) := by decide +kernel
theorem dX9_init_90 : decode cX9_init 90 = .ok (.bipush 8, 2) := by decide +kernel
theorem dX9_init_92 : decode cX9_init 92 = .ok (.newarray .int, 2) := by decide +kernel
theorem dX9_init_94 : decode cX9_init 94 = .ok (.putfield 50, 3) := by decide +kernel
theorem dX9_init_97 : decode cX9_init 97 = .ok (.aload_n 0, 1) := by decide +kernel
theorem dX9_init_98 : decode cX9_init 98 = .ok (.bipush 8, 2) := by decide +kernel
theorem dX9_init_100 : decode cX9_init 100 = .ok (.newarray .int, 2) := by decide +kernel
theorem dX9_init_102 : decode cX9_init 102 = .ok (.putfield 53, 3) := by decide +kernel
theorem dX9_init_105 : decode cX9_init 105 = .ok (.aload_n 0, 1) := by decide +kernel
theorem dX9_init_106 : decode cX9_init 106 = .ok (.bipush 6, 2) := by decide +kernel
theorem dX9_init_108 : decode cX9_init 108 = .ok (.newarray .int, 2) := by decide +kernel
theorem dX9_init_110 : decode cX9_init 110 = .ok (.putfield 56, 3) := by decide +kernel
theorem dX9_init_113 : decode cX9_init 113 = .ok (.aload_n 0, 1) := by decide +kernel
theorem dX9_init_114 : decode cX9_init 114 = .ok (.bipush 6, 2) := by decide +kernel
theorem dX9_init_116 : decode cX9_init 116 = .ok (.newarray .long, 2) := by decide +kernel
theorem dX9_init_118 : decode cX9_init 118 = .ok (.putfield 59, 3) := by decide +kernel
theorem dX9_init_121 : decode cX9_init 121 = .ok (.aload_n 0, 1) := by decide +kernel
theorem dX9_init_122 : decode cX9_init 122 = .ok (.bipush 6, 2) := by decide +kernel
theorem dX9_init_124 : decode cX9_init 124 = .ok (.newarray .long, 2) := by decide +kernel
theorem dX9_init_126 : decode cX9_init 126 = .ok (.putfield 62, 3) := by decide +kernel
theorem dX9_init_129 : decode cX9_init 129 = .ok (.aload_n 0, 1) := by decide +kernel
theorem dX9_init_130 : decode cX9_init 130 = .ok (.bipush 6, 2) := by decide +kernel
theorem dX9_init_132 : decode cX9_init 132 = .ok (.newarray .long, 2) := by decide +kernel
theorem dX9_init_134 : decode cX9_init 134 = .ok (.putfield 65, 3) := by decide +kernel
theorem dX9_init_137 : decode cX9_init 137 = .ok (.aload_n 0, 1) := by decide +kernel
theorem dX9_init_138 : decode cX9_init 138 = .ok (.bipush 6, 2) := by decide +kernel
theorem dX9_init_140 : decode cX9_init 140 = .ok (.newarray .long, 2) := by decide +kernel
theorem dX9_init_142 : decode cX9_init 142 = .ok (.putfield 68, 3) := by decide +kernel
theorem dX9_init_145 : decode cX9_init 145 = .ok (.aload_n 0, 1) := by decide +kernel
theorem dX9_init_146 : decode cX9_init 146 = .ok (.bipush 6, 2) := by decide +kernel
theorem dX9_init_148 : decode cX9_init 148 = .ok (.newarray .long, 2) := by decide +kernel
theorem dX9_init_150 : decode cX9_init 150 = .ok (.putfield 71, 3) := by decide +kernel
theorem dX9_init_153 : decode cX9_init 153 = .ok (.aload_n 0, 1) := by decide +kernel
theorem dX9_init_154 : decode cX9_init 154 = .ok (.bipush 6, 2) := by decide +kernel
theorem dX9_init_156 : decode cX9_init 156 = .ok (.newarray .long, 2) := by decide +kernel
theorem dX9_init_158 : decode cX9_init 158 = .ok (.putfield 74, 3) := by decide +kernel
theorem dX9_init_161 : decode cX9_init 161 = .ok (.aload_n 0, 1) := by decide +kernel
theorem dX9_init_162 : decode cX9_init 162 = .ok (.bipush 20, 2) := by decide +kernel
theorem dX9_init_164 : decode cX9_init 164 = .ok (.newarray .int, 2) := by decide +kernel
theorem dX9_init_166 : decode cX9_init 166 = .ok (.putfield 77, 3) := by decide +kernel
theorem dX9_init_169 : decode cX9_init 169 = .ok (.aload_n 0, 1) := by decide +kernel
theorem dX9_init_170 : decode cX9_init 170 = .ok (.bipush 20, 2) := by decide +kernel
theorem dX9_init_172 : decode cX9_init 172 = .ok (.newarray .long, 2) := by decide +kernel
theorem dX9_init_174 : decode cX9_init 174 = .ok (.putfield 80, 3) := by decide +kernel
theorem dX9_init_177 : decode cX9_init 177 = .ok (.aload_n 0, 1) := by decide +kernel
theorem dX9_init_178 : decode cX9_init 178 = .ok (.bipush 20, 2) := by decide +kernel
theorem dX9_init_180 : decode cX9_init 180 = .ok (.newarray .long, 2) := by decide +kernel
theorem dX9_init_182 : decode cX9_init 182 = .ok (.putfield 83, 3) := by decide +kernel
theorem dX9_init_185 : decode cX9_init 185 = .ok (.aload_n 0, 1) := by decide +kernel
theorem dX9_init_186 : decode cX9_init 186 = .ok (.sipush 240, 3) := by decide +kernel
theorem dX9_init_189 : decode cX9_init 189 = .ok (.newarray .long, 2) := by decide +kernel
theorem dX9_init_191 : decode cX9_init 191 = .ok (.putfield 86, 3) := by decide +kernel
theorem dX9_init_194 : decode cX9_init 194 = .ok (.aload_n 0, 1) := by decide +kernel
theorem dX9_init_195 : decode cX9_init 195 = .ok (.sipush 240, 3) := by decide +kernel
theorem dX9_init_198 : decode cX9_init 198 = .ok (.newarray .long, 2) := by decide +kernel
theorem dX9_init_200 : decode cX9_init 200 = .ok (.putfield 89, 3) := by decide +kernel
theorem dX9_init_203 : decode cX9_init 203 = .ok (.aload_n 0, 1) := by decide +kernel
theorem dX9_init_204 : decode cX9_init 204 = .ok (.bipush 100, 2) := by decide +kernel
theorem dX9_init_206 : decode cX9_init 206 = .ok (.newarray .int, 2) := by decide +kernel
theorem dX9_init_208 : decode cX9_init 208 = .ok (.putfield 92, 3) := by decide +kernel
theorem dX9_init_211 : decode cX9_init 211 = .ok (.aload_n 0, 1) := by decide +kernel
theorem dX9_init_212 : decode cX9_init 212 = .ok (.bipush 12, 2) := by decide +kernel
theorem dX9_init_214 : decode cX9_init 214 = .ok (.newarray .int, 2) := by decide +kernel
theorem dX9_init_216 : decode cX9_init 216 = .ok (.putfield 95, 3) := by decide +kernel
theorem dX9_init_219 : decode cX9_init 219 = .ok (.aload_n 0, 1) := by decide +kernel
theorem dX9_init_220 : decode cX9_init 220 = .ok (.bipush 12, 2) := by decide +kernel
theorem dX9_init_222 : decode cX9_init 222 = .ok (.newarray .int, 2) := by decide +kernel
theorem dX9_init_224 : decode cX9_init 224 = .ok (.putfield 98, 3) := by decide +kernel
theorem dX9_init_227 : decode cX9_init 227 = .ok (.aload_n 0, 1) := by decide +kernel
theorem dX9_init_228 : decode cX9_init 228 = .ok (.bipush 12, 2) := by decide +kernel
theorem dX9_init_230 : decode cX9_init 230 = .ok (.newarray .int, 2) := by decide +kernel
theorem dX9_init_232 : decode cX9_init 232 = .ok (.putfield 101, 3) := by decide +kernel
theorem dX9_init_235 : decode cX9_init 235 = .ok (.aload_n 0, 1) := by decide +kernel
theorem dX9_init_236 : decode cX9_init 236 = .ok (.bipush 12, 2) := by decide +kernel
theorem dX9_init_238 : decode cX9_init 238 = .ok (.newarray .int, 2) := by decide +kernel
theorem dX9_init_240 : decode cX9_init 240 = .ok (.putfield 104, 3) := by decide +kernel
theorem dX9_init_243 : decode cX9_init 243 = .ok (.aload_n 0, 1) := by decide +kernel
theorem dX9_init_244 : decode cX9_init 244 = .ok (.bipush 6, 2) := by decide +kernel
theorem dX9_init_246 : decode cX9_init 246 = .ok (.newarray .int, 2) := by decide +kernel
theorem dX9_init_248 : decode cX9_init 248 = .ok (.putfield 107, 3) := by decide +kernel
theorem dX9_init_251 : decode cX9_init 251 = .ok (.aload_n 0, 1) := by decide +kernel
theorem dX9_init_252 : decode cX9_init 252 = .ok (.bipush 6, 2) := by decide +kernel
theorem dX9_init_254 : decode cX9_init 254 = .ok (.newarray .int, 2) := by decide +kernel
theorem dX9_init_256 : decode cX9_init 256 = .ok (.putfield 110, 3) := by decide +kernel
theorem dX9_init_259 : decode cX9_init 259 = .ok (.aload_n 0, 1) := by decide +kernel
theorem dX9_init_260 : decode cX9_init 260 = .ok (.sipush 360, 3) := by decide +kernel
theorem dX9_init_263 : decode cX9_init 263 = .ok (.newarray .long, 2) := by decide +kernel
theorem dX9_init_265 : decode cX9_init 265 = .ok (.putfield 113, 3) := by decide +kernel
theorem dX9_init_268 : decode cX9_init 268 = .ok (.aload_n 0, 1) := by decide +kernel
theorem dX9_init_269 : decode cX9_init 269 = .ok (.bipush 60, 2) := by decide +kernel
theorem dX9_init_271 : decode cX9_init 271 = .ok (.newarray .long, 2) := by decide +kernel
theorem dX9_init_273 : decode cX9_init 273 = .ok (.putfield 116, 3) := by decide +kernel
theorem dX9_init_276 : decode cX9_init 276 = .ok (.aload_n 0, 1) := by decide +kernel
theorem dX9_init_277 : decode cX9_init 277 = .ok (.bipush 80, 2) := by decide +kernel
theorem dX9_init_279 : decode cX9_init 279 = .ok (.newarray .long, 2) := by decide +kernel
theorem dX9_init_281 : decode cX9_init 281 = .ok (.putfield 119, 3) := by decide +kernel
theorem dX9_init_284 : decode cX9_init 284 = .ok (.iconst 0, 1) := by decide +kernel
theorem dX9_init_285 : decode cX9_init 285 = .ok (.istore_n 1, 1) := by decide +kernel
theorem dX9_init_286 : decode cX9_init 286 = .ok (.iload_n 1, 1) := by decide +kernel
theorem dX9_init_287 : decode cX9_init 287 = .ok (.bipush 6, 2) := by decide +kernel
theorem dX9_init_289 : decode cX9_init 289 = .ok (.if_icmp .ge 16, 3) := by decide +kernel
theorem dX9_init_292 : decode cX9_init 292 = .ok (.aload_n 0, 1) := by decide +kernel
theorem dX9_init_293 : decode cX9_init 293 = .ok (.getfield 107, 3) := by decide +kernel
theorem dX9_init_296 : decode cX9_init 296 = .ok (.iload_n 1, 1) := by decide +kernel
theorem dX9_init_297 : decode cX9_init 297 = .ok (.iconst (-1), 1) := by decide +kernel
theorem dX9_init_298 : decode cX9_init 298 = .ok (.iastore, 1) := by decide +kernel
theorem dX9_init_299 : decode cX9_init 299 = .ok (.iinc 1 1, 3) := by decide +kernel
theorem dX9_init_302 : decode cX9_init 302 = .ok (.goto (-16), 3) := by decide +kernel
theorem dX9_init_305 : decode cX9_init 305 = .ok (.return_, 1) := by decide +kernel
theorem dX9_isIn_0 : decode cX9_isIn 0 = .ok (.lload_n 0, 1) := by decide +kernel
theorem dX9_isIn_1 : decode cX9_isIn 1 = .ok (.lload_n 2, 1) := by decide +kernel
theorem dX9_isIn_2 : decode cX9_isIn 2 = .ok (.lcmp, 1) := by decide +kernel
theorem dX9_isIn_3 : decode cX9_isIn 3 = .ok (.ifCond .lt 14, 3) := by decide +kernel
theorem dX9_isIn_6 : decode cX9_isIn 6 = .ok (.lload_n 0, 1) := by decide +kernel
theorem dX9_isIn_7 : decode cX9_isIn 7 = .ok (.lload 4, 2) := by decide +kernel
theorem dX9_isIn_9 : decode cX9_isIn 9 = .ok (.lcmp, 1) := by decide +kernel
theorem dX9_isIn_10 : decode cX9_isIn 10 = .ok (.ifCond .gt 7, 3) := by decide +kernel
theorem dX9_isIn_13 : decode cX9_isIn 13 = .ok (.iconst 1, 1) := by decide +kernel
theorem dX9_isIn_14 : decode cX9_isIn 14 = .ok (.goto 4, 3) := by decide +kernel
theorem dX9_isIn_17 : decode cX9_isIn 17 = .ok (.iconst 0, 1) := by decide +kernel
theorem dX9_isIn_18 : decode cX9_isIn 18 = .ok (.ireturn, 1) := by decide +kernel
theorem dX9_product_0 : decode cX9_product 0 = .ok (.lload_n 1, 1) := by decide +kernel
theorem dX9_product_1 : decode cX9_product 1 = .ok (.lconst 0, 1) := by decide +kernel
theorem dX9_product_2 : decode cX9_product 2 = .ok (.lcmp, 1) := by decide +kernel
theorem dX9_product_3 : decode cX9_product 3 = .ok (.ifCond .eq 9, 3) := by decide +kernel
theorem dX9_product_6 : decode cX9_product 6 = .ok (.lload_n 3, 1) := by decide +kernel
theorem dX9_product_7 : decode cX9_product 7 = .ok (.lconst 0, 1) := by decide +kernel
theorem dX9_product_8 : decode cX9_product 8 = .ok (.lcmp, 1) := by decide +kernel
theorem dX9_product_9 : decode cX9_product 9 = .ok (.ifCond .ne 5, 3) := by decide +kernel
theorem dX9_product_12 : decode cX9_product 12 = .ok (.lconst 0, 1) := by decide +kernel
theorem dX9_product_13 : decode cX9_product 13 = .ok (.lreturn, 1) := by decide +kernel
theorem dX9_product_14 : decode cX9_product 14 = .ok (.lload_n 1, 1) := by decide +kernel
theorem dX9_product_15 : decode cX9_product 15 = .ok (.lload_n 3, 1) := by decide +kernel
theorem dX9_product_16 : decode cX9_product 16 = .ok (.lmul, 1) := by decide +kernel
theorem dX9_product_17 : decode cX9_product 17 = .ok (.lstore 5, 2) := by decide +kernel
theorem dX9_product_19 : decode cX9_product 19 = .ok (.lload_n 1, 1) := by decide +kernel
theorem dX9_product_20 : decode cX9_product 20 = .ok (.ldc2_w 122, 3) := by decide +kernel
theorem dX9_product_23 : decode cX9_product 23 = .ok (.lcmp, 1) := by decide +kernel
theorem dX9_product_24 : decode cX9_product 24 = .ok (.ifCond .ne 19, 3) := by decide +kernel
theorem dX9_product_27 : decode cX9_product 27 = .ok (.lload_n 3, 1) := by decide +kernel
theorem dX9_product_28 : decode cX9_product 28 = .ok (.ldc2_w 124, 3) := by decide +kernel
theorem dX9_product_31 : decode cX9_product 31 = .ok (.lcmp, 1) := by decide +kernel
theorem dX9_product_32 : decode cX9_product 32 = .ok (.ifCond .ne 7, 3) := by decide +kernel
theorem dX9_product_35 : decode cX9_product 35 = .ok (.iconst 1, 1) := by decide +kernel
theorem dX9_product_36 : decode cX9_product 36 = .ok (.goto 45, 3) := by decide +kernel
theorem dX9_product_39 : decode cX9_product 39 = .ok (.iconst 0, 1) := by decide +kernel
theorem dX9_product_40 : decode cX9_product 40 = .ok (.goto 41, 3) := by decide +kernel
theorem dX9_product_43 : decode cX9_product 43 = .ok (.lload_n 3, 1) := by decide +kernel
theorem dX9_product_44 : decode cX9_product 44 = .ok (.ldc2_w 122, 3) := by decide +kernel
theorem dX9_product_47 : decode cX9_product 47 = .ok (.lcmp, 1) := by decide +kernel
theorem dX9_product_48 : decode cX9_product 48 = .ok (.ifCond .ne 19, 3) := by decide +kernel
theorem dX9_product_51 : decode cX9_product 51 = .ok (.lload_n 1, 1) := by decide +kernel
theorem dX9_product_52 : decode cX9_product 52 = .ok (.ldc2_w 124, 3) := by decide +kernel
theorem dX9_product_55 : decode cX9_product 55 = .ok (.lcmp, 1) := by decide +kernel
theorem dX9_product_56 : decode cX9_product 56 = .ok (.ifCond .ne 7, 3) := by decide +kernel
theorem dX9_product_59 : decode cX9_product 59 = .ok (.iconst 1, 1) := by decide +kernel
theorem dX9_product_60 : decode cX9_product 60 = .ok (.goto 21, 3) := by decide +kernel
theorem dX9_product_63 : decode cX9_product 63 = .ok (.iconst 0, 1) := by decide +kernel
theorem dX9_product_64 : decode cX9_product 64 = .ok (.goto 17, 3) := by decide +kernel
theorem dX9_product_67 : decode cX9_product 67 = .ok (.lload 5, 2) := by decide +kernel
theorem dX9_product_69 : decode cX9_product 69 = .ok (.lload_n 3, 1) := by decide +kernel
theorem dX9_product_70 : decode cX9_product 70 = .ok (.ldiv, 1) := by decide +kernel
theorem dX9_product_71 : decode cX9_product 71 = .ok (.lload_n 1, 1) := by decide +kernel
theorem dX9_product_72 : decode cX9_product 72 = .ok (.lcmp, 1) := by decide +kernel
theorem dX9_product_73 : decode cX9_product 73 = .ok (.ifCond .eq 7, 3) := by decide +kernel
theorem dX9_product_76 : decode cX9_product 76 = .ok (.iconst 1, 1) := by decide +kernel
theorem dX9_product_77 : decode cX9_product 77 = .ok (.goto 4, 3) := by decide +kernel
theorem dX9_product_80 : decode cX9_product 80 = .ok (.iconst 0, 1) := by decide +kernel
theorem dX9_product_81 : decode cX9_product 81 = .ok (.istore 7, 2) := by decide +kernel
theorem dX9_product_83 : decode cX9_product 83 = .ok (.aload_n 0, 1) := by decide +kernel
theorem dX9_product_84 : decode cX9_product 84 = .ok (.dup, 1) := by decide +kernel
theorem dX9_product_85 : decode cX9_product 85 = .ok (.getfield 126, 3) := by decide +kernel
theorem dX9_product_88 : decode cX9_product 88 = .ok (.iload 7, 2) := by decide +kernel
theorem dX9_product_90 : decode cX9_product 90 = .ok (.ior, 1) := by decide +kernel
theorem dX9_product_91 : decode cX9_product 91 = .ok (.putfield 126, 3) := by decide +kernel
theorem dX9_product_94 : decode cX9_product 94 = .ok (.lload 5, 2) := by decide +kernel
theorem dX9_product_96 : decode cX9_product 96 = .ok (.lreturn, 1) := by decide +kernel
theorem dX9_sum_0 : decode cX9_sum 0 = .ok (.lload_n 1, 1) := by decide +kernel
theorem dX9_sum_1 : decode cX9_sum 1 = .ok (.lload_n 3, 1) := by decide +kernel
theorem dX9_sum_2 : decode cX9_sum 2 = .ok (.ladd, 1) := by decide +kernel
theorem dX9_sum_3 : decode cX9_sum 3 = .ok (.lstore 5, 2) := by decide +kernel
theorem dX9_sum_5 : decode cX9_sum 5 = .ok (.aload_n 0, 1) := by decide +kernel
theorem dX9_sum_6 : decode cX9_sum 6 = .ok (.dup, 1) := by decide +kernel
theorem dX9_sum_7 : decode cX9_sum 7 = .ok (.getfield 126, 3) := by decide +kernel
theorem dX9_sum_10 : decode cX9_sum 10 = .ok (.lload_n 1, 1) := by decide +kernel
theorem dX9_sum_11 : decode cX9_sum 11 = .ok (.lconst 0, 1) := by decide +kernel
theorem dX9_sum_12 : decode cX9_sum 12 = .ok (.lcmp, 1) := by decide +kernel
theorem dX9_sum_13 : decode cX9_sum 13 = .ok (.ifCond .lt 7, 3) := by decide +kernel
theorem dX9_sum_16 : decode cX9_sum 16 = .ok (.iconst 1, 1) := by decide +kernel
theorem dX9_sum_17 : decode cX9_sum 17 = .ok (.goto 4, 3) := by decide +kernel
theorem dX9_sum_20 : decode cX9_sum 20 = .ok (.iconst 0, 1) := by decide +kernel
theorem dX9_sum_21 : decode cX9_sum 21 = .ok (.lload_n 3, 1) := by decide +kernel
theorem dX9_sum_22 : decode cX9_sum 22 = .ok (.lconst 0, 1) := by decide +kernel
theorem dX9_sum_23 : decode cX9_sum 23 = .ok (.lcmp, 1) := by decide +kernel
theorem dX9_sum_24 : decode cX9_sum 24 = .ok (.ifCond .lt 7, 3) := by decide +kernel
theorem dX9_sum_27 : decode cX9_sum 27 = .ok (.iconst 1, 1) := by decide +kernel
theorem dX9_sum_28 : decode cX9_sum 28 = .ok (.goto 4, 3) := by decide +kernel
theorem dX9_sum_31 : decode cX9_sum 31 = .ok (.iconst 0, 1) := by decide +kernel
theorem dX9_sum_32 : decode cX9_sum 32 = .ok (.if_icmp .ne 33, 3) := by decide +kernel
theorem dX9_sum_35 : decode cX9_sum 35 = .ok (.lload 5, 2) := by decide +kernel
theorem dX9_sum_37 : decode cX9_sum 37 = .ok (.lconst 0, 1) := by decide +kernel
theorem dX9_sum_38 : decode cX9_sum 38 = .ok (.lcmp, 1) := by decide +kernel
theorem dX9_sum_39 : decode cX9_sum 39 = .ok (.ifCond .lt 7, 3) := by decide +kernel
theorem dX9_sum_42 : decode cX9_sum 42 = .ok (.iconst 1, 1) := by decide +kernel
theorem dX9_sum_43 : decode cX9_sum 43 = .ok (.goto 4, 3) := by decide +kernel
theorem dX9_sum_46 : decode cX9_sum 46 = .ok (.iconst 0, 1) := by decide +kernel
theorem dX9_sum_47 : decode cX9_sum 47 = .ok (.lload_n 1, 1) := by decide +kernel
theorem dX9_sum_48 : decode cX9_sum 48 = .ok (.lconst 0, 1) := by decide +kernel
theorem dX9_sum_49 : decode cX9_sum 49 = .ok (.lcmp, 1) := by decide +kernel
theorem dX9_sum_50 : decode cX9_sum 50 = .ok (.ifCond .lt 7, 3) := by decide +kernel
theorem dX9_sum_53 : decode cX9_sum 53 = .ok (.iconst 1, 1) := by decide +kernel
theorem dX9_sum_54 : decode cX9_sum 54 = .ok (.goto 4, 3) := by decide +kernel
theorem dX9_sum_57 : decode cX9_sum 57 = .ok (.iconst 0, 1) := by decide +kernel
theorem dX9_sum_58 : decode cX9_sum 58 = .ok (.if_icmp .eq 7, 3) := by decide +kernel
theorem dX9_sum_61 : decode cX9_sum 61 = .ok (.iconst 1, 1) := by decide +kernel
theorem dX9_sum_62 : decode cX9_sum 62 = .ok (.goto 4, 3) := by decide +kernel
theorem dX9_sum_65 : decode cX9_sum 65 = .ok (.iconst 0, 1) := by decide +kernel
theorem dX9_sum_66 : decode cX9_sum 66 = .ok (.ior, 1) := by decide +kernel
theorem dX9_sum_67 : decode cX9_sum 67 = .ok (.putfield 126, 3) := by decide +kernel
theorem dX9_sum_70 : decode cX9_sum 70 = .ok (.lload 5, 2) := by decide +kernel
theorem dX9_sum_72 : decode cX9_sum 72 = .ok (.lreturn, 1) := by decide +kernel
theorem dX9_difference_0 : decode cX9_difference 0 = .ok (.lload_n 1, 1) := by decide +kernel
theorem dX9_difference_1 : decode cX9_difference 1 = .ok (.lload_n 3, 1) := by decide +kernel
theorem dX9_difference_2 : decode cX9_difference 2 = .ok (.lsub, 1) := by decide +kernel
theorem dX9_difference_3 : decode cX9_difference 3 = .ok (.lstore 5, 2) := by decide +kernel
theorem dX9_difference_5 : decode cX9_difference 5 = .ok (.aload_n 0, 1) := by decide +kernel
theorem dX9_difference_6 : decode cX9_difference 6 = .ok (.dup, 1) := by decide +kernel
theorem dX9_difference_7 : decode cX9_difference 7 = .ok (.getfield 126, 3) := by decide +kernel
theorem dX9_difference_10 : decode cX9_difference 10 = .ok (.lload_n 1, 1) := by decide +kernel
theorem dX9_difference_11 : decode cX9_difference 11 = .ok (.lconst 0, 1) := by decide +kernel
theorem dX9_difference_12 : decode cX9_difference 12 = .ok (.lcmp, 1) := by decide +kernel
theorem dX9_difference_13 : decode cX9_difference 13 = .ok (.ifCond .lt 7, 3) := by decide +kernel
theorem dX9_difference_16 : decode cX9_difference 16 = .ok (.iconst 1, 1) := by decide +kernel
theorem dX9_difference_17 : decode cX9_difference 17 = .ok (.goto 4, 3) := by decide +kernel
theorem dX9_difference_20 : decode cX9_difference 20 = .ok (.iconst 0, 1) := by decide +kernel
theorem dX9_difference_21 : decode cX9_difference 21 = .ok (.lload_n 3, 1) := by decide +kernel
theorem dX9_difference_22 : decode cX9_difference 22 = .ok (.lconst 0, 1) := by decide +kernel
theorem dX9_difference_23 : decode cX9_difference 23 = .ok (.lcmp, 1) := by decide +kernel
theorem dX9_difference_24 : decode cX9_difference 24 = .ok (.ifCond .lt 7, 3) := by decide +kernel
theorem dX9_difference_27 : decode cX9_difference 27 = .ok (.iconst 1, 1) := by decide +kernel
theorem dX9_difference_28 : decode cX9_difference 28 = .ok (.goto 4, 3) := by decide +kernel
theorem dX9_difference_31 : decode cX9_difference 31 = .ok (.iconst 0, 1) := by decide +kernel
theorem dX9_difference_32 : decode cX9_difference 32 = .ok (.if_icmp .eq 33, 3) := by decide +kernel
theorem dX9_difference_35 : decode cX9_difference 35 = .ok (.lload 5, 2) := by decide +kernel
theorem dX9_difference_37 : decode cX9_difference 37 = .ok (.lconst 0, 1) := by decide +kernel
theorem dX9_difference_38 : decode cX9_difference 38 = .ok (.lcmp, 1) := by decide +kernel
theorem dX9_difference_39 : decode cX9_difference 39 = .ok (.ifCond .lt 7, 3) := by decide +kernel
theorem dX9_difference_42 : decode cX9_difference 42 = .ok (.iconst 1, 1) := by decide +kernel
theorem dX9_difference_43 : decode cX9_difference 43 = .ok (.goto 4, 3) := by decide +kernel
theorem dX9_difference_46 : decode cX9_difference 46 = .ok (.iconst 0, 1) := by decide +kernel
theorem dX9_difference_47 : decode cX9_difference 47 = .ok (.lload_n 1, 1) := by decide +kernel
theorem dX9_difference_48 : decode cX9_difference 48 = .ok (.lconst 0, 1) := by decide +kernel
theorem dX9_difference_49 : decode cX9_difference 49 = .ok (.lcmp, 1) := by decide +kernel
theorem dX9_difference_50 : decode cX9_difference 50 = .ok (.ifCond .lt 7, 3) := by decide +kernel
theorem dX9_difference_53 : decode cX9_difference 53 = .ok (.iconst 1, 1) := by decide +kernel
theorem dX9_difference_54 : decode cX9_difference 54 = .ok (.goto 4, 3) := by decide +kernel
theorem dX9_difference_57 : decode cX9_difference 57 = .ok (.iconst 0, 1) := by decide +kernel
theorem dX9_difference_58 : decode cX9_difference 58 = .ok (.if_icmp .eq 7, 3) := by decide +kernel
theorem dX9_difference_61 : decode cX9_difference 61 = .ok (.iconst 1, 1) := by decide +kernel
theorem dX9_difference_62 : decode cX9_difference 62 = .ok (.goto 4, 3) := by decide +kernel
theorem dX9_difference_65 : decode cX9_difference 65 = .ok (.iconst 0, 1) := by decide +kernel
theorem dX9_difference_66 : decode cX9_difference 66 = .ok (.ior, 1) := by decide +kernel
theorem dX9_difference_67 : decode cX9_difference 67 = .ok (.putfield 126, 3) := by decide +kernel
theorem dX9_difference_70 : decode cX9_difference 70 = .ok (.lload 5, 2) := by decide +kernel
theorem dX9_difference_72 : decode cX9_difference 72 = .ok (.lreturn, 1) := by decide +kernel
theorem dX9_lowest_0 : decode cX9_lowest 0 = .ok (.aload_n 0, 1) := by decide +kernel
theorem dX9_lowest_1 : decode cX9_lowest 1 = .ok (.getfield 126, 3) := by decide +kernel
theorem dX9_lowest_4 : decode cX9_lowest 4 = .ok (.ifCond .eq 14, 3) := by decide +kernel
theorem dX9_lowest_7 : decode cX9_lowest 7 = .ok (.aload_n 0, 1) := by decide +kernel
theorem dX9_lowest_8 : decode cX9_lowest 8 = .ok (.lconst 0, 1) := by decide +kernel
theorem dX9_lowest_9 : decode cX9_lowest 9 = .ok (.putfield 130, 3) := by decide +kernel
theorem dX9_lowest_12 : decode cX9_lowest 12 = .ok (.aload_n 0, 1) := by decide +kernel
theorem dX9_lowest_13 : decode cX9_lowest 13 = .ok (.lconst 1, 1) := by decide +kernel
theorem dX9_lowest_14 : decode cX9_lowest 14 = .ok (.putfield 134, 3) := by decide +kernel
theorem dX9_lowest_17 : decode cX9_lowest 17 = .ok (.return_, 1) := by decide +kernel
theorem dX9_lowest_18 : decode cX9_lowest 18 = .ok (.lload_n 1, 1) := by decide +kernel
theorem dX9_lowest_19 : decode cX9_lowest 19 = .ok (.lstore 5, 2) := by decide +kernel
theorem dX9_lowest_21 : decode cX9_lowest 21 = .ok (.lload_n 3, 1) := by decide +kernel
theorem dX9_lowest_22 : decode cX9_lowest 22 = .ok (.lstore 7, 2) := by decide +kernel
theorem dX9_lowest_24 : decode cX9_lowest 24 = .ok (.lload 7, 2) := by decide +kernel
theorem dX9_lowest_26 : decode cX9_lowest 26 = .ok (.lconst 0, 1) := by decide +kernel
theorem dX9_lowest_27 : decode cX9_lowest 27 = .ok (.lcmp, 1) := by decide +kernel
theorem dX9_lowest_28 : decode cX9_lowest 28 = .ok (.ifCond .eq 21, 3) := by decide +kernel
theorem dX9_lowest_31 : decode cX9_lowest 31 = .ok (.lload 5, 2) := by decide +kernel
theorem dX9_lowest_33 : decode cX9_lowest 33 = .ok (.lload 7, 2) := by decide +kernel
theorem dX9_lowest_35 : decode cX9_lowest 35 = .ok (.lrem, 1) := by decide +kernel
theorem dX9_lowest_36 : decode cX9_lowest 36 = .ok (.lstore 9, 2) := by decide +kernel
theorem dX9_lowest_38 : decode cX9_lowest 38 = .ok (.lload 7, 2) := by decide +kernel
theorem dX9_lowest_40 : decode cX9_lowest 40 = .ok (.lstore 5, 2) := by decide +kernel
theorem dX9_lowest_42 : decode cX9_lowest 42 = .ok (.lload 9, 2) := by decide +kernel
theorem dX9_lowest_44 : decode cX9_lowest 44 = .ok (.lstore 7, 2) := by decide +kernel
theorem dX9_lowest_46 : decode cX9_lowest 46 = .ok (.goto (-22), 3) := by decide +kernel
theorem dX9_lowest_49 : decode cX9_lowest 49 = .ok (.lload 5, 2) := by decide +kernel
theorem dX9_lowest_51 : decode cX9_lowest 51 = .ok (.lconst 0, 1) := by decide +kernel
theorem dX9_lowest_52 : decode cX9_lowest 52 = .ok (.lcmp, 1) := by decide +kernel
theorem dX9_lowest_53 : decode cX9_lowest 53 = .ok (.ifCond .ge 9, 3) := by decide +kernel
theorem dX9_lowest_56 : decode cX9_lowest 56 = .ok (.lload 5, 2) := by decide +kernel
theorem dX9_lowest_58 : decode cX9_lowest 58 = .ok (.lneg, 1) := by decide +kernel
theorem dX9_lowest_59 : decode cX9_lowest 59 = .ok (.goto 5, 3) := by decide +kernel
theorem dX9_lowest_62 : decode cX9_lowest 62 = .ok (.lload 5, 2) := by decide +kernel
theorem dX9_lowest_64 : decode cX9_lowest 64 = .ok (.lstore 9, 2) := by decide +kernel
theorem dX9_lowest_66 : decode cX9_lowest 66 = .ok (.aload_n 0, 1) := by decide +kernel
theorem dX9_lowest_67 : decode cX9_lowest 67 = .ok (.lload_n 1, 1) := by decide +kernel
theorem dX9_lowest_68 : decode cX9_lowest 68 = .ok (.lload 9, 2) := by decide +kernel
theorem dX9_lowest_70 : decode cX9_lowest 70 = .ok (.ldiv, 1) := by decide +kernel
theorem dX9_lowest_71 : decode cX9_lowest 71 = .ok (.putfield 130, 3) := by decide +kernel
theorem dX9_lowest_74 : decode cX9_lowest 74 = .ok (.aload_n 0, 1) := by decide +kernel
theorem dX9_lowest_75 : decode cX9_lowest 75 = .ok (.lload_n 3, 1) := by decide +kernel
theorem dX9_lowest_76 : decode cX9_lowest 76 = .ok (.lload 9, 2) := by decide +kernel
theorem dX9_lowest_78 : decode cX9_lowest 78 = .ok (.ldiv, 1) := by decide +kernel
theorem dX9_lowest_79 : decode cX9_lowest 79 = .ok (.putfield 134, 3) := by decide +kernel
theorem dX9_lowest_82 : decode cX9_lowest 82 = .ok (.return_, 1) := by decide +kernel
theorem dX9_times_0 : decode cX9_times 0 = .ok (.aload_n 0, 1) := by decide +kernel
theorem dX9_times_1 : decode cX9_times 1 = .ok (.lload_n 1, 1) := by decide +kernel
theorem dX9_times_2 : decode cX9_times 2 = .ok (.lload 5, 2) := by decide +kernel
theorem dX9_times_4 : decode cX9_times 4 = .ok (.invokevirtual 137, 3) := by decide +kernel
theorem dX9_times_7 : decode cX9_times 7 = .ok (.lstore 9, 2) := by decide +kernel
theorem dX9_times_9 : decode cX9_times 9 = .ok (.aload_n 0, 1) := by decide +kernel
theorem dX9_times_10 : decode cX9_times 10 = .ok (.lload 9, 2) := by decide +kernel
theorem dX9_times_12 : decode cX9_times 12 = .ok (.aload_n 0, 1) := by decide +kernel
theorem dX9_times_13 : decode cX9_times 13 = .ok (.lload_n 3, 1) := by decide +kernel
theorem dX9_times_14 : decode cX9_times 14 = .ok (.lload 7, 2) := by decide +kernel
theorem dX9_times_16 : decode cX9_times 16 = .ok (.invokevirtual 137, 3) := by decide +kernel
theorem dX9_times_19 : decode cX9_times 19 = .ok (.invokevirtual 141, 3) := by decide +kernel
theorem dX9_times_22 : decode cX9_times 22 = .ok (.return_, 1) := by decide +kernel
theorem dX9_by_0 : decode cX9_by 0 = .ok (.aload_n 0, 1) := by decide +kernel
theorem dX9_by_1 : decode cX9_by 1 = .ok (.lload_n 1, 1) := by decide +kernel
theorem dX9_by_2 : decode cX9_by 2 = .ok (.lload 7, 2) := by decide +kernel
theorem dX9_by_4 : decode cX9_by 4 = .ok (.invokevirtual 137, 3) := by decide +kernel
theorem dX9_by_7 : decode cX9_by 7 = .ok (.lstore 9, 2) := by decide +kernel
theorem dX9_by_9 : decode cX9_by 9 = .ok (.aload_n 0, 1) := by decide +kernel
theorem dX9_by_10 : decode cX9_by 10 = .ok (.lload_n 3, 1) := by decide +kernel
theorem dX9_by_11 : decode cX9_by 11 = .ok (.lload 5, 2) := by decide +kernel
theorem dX9_by_13 : decode cX9_by 13 = .ok (.invokevirtual 137, 3) := by decide +kernel
theorem dX9_by_16 : decode cX9_by 16 = .ok (.lstore 11, 2) := by decide +kernel
theorem dX9_by_18 : decode cX9_by 18 = .ok (.lload 5, 2) := by decide +kernel
theorem dX9_by_20 : decode cX9_by 20 = .ok (.lconst 0, 1) := by decide +kernel
theorem dX9_by_21 : decode cX9_by 21 = .ok (.lcmp, 1) := by decide +kernel
theorem dX9_by_22 : decode cX9_by 22 = .ok (.ifCond .ge 21, 3) := by decide +kernel
theorem dX9_by_25 : decode cX9_by 25 = .ok (.aload_n 0, 1) := by decide +kernel
theorem dX9_by_26 : decode cX9_by 26 = .ok (.lconst 0, 1) := by decide +kernel
theorem dX9_by_27 : decode cX9_by 27 = .ok (.lload 9, 2) := by decide +kernel
theorem dX9_by_29 : decode cX9_by 29 = .ok (.invokevirtual 145, 3) := by decide +kernel
theorem dX9_by_32 : decode cX9_by 32 = .ok (.lstore 9, 2) := by decide +kernel
theorem dX9_by_34 : decode cX9_by 34 = .ok (.aload_n 0, 1) := by decide +kernel
theorem dX9_by_35 : decode cX9_by 35 = .ok (.lconst 0, 1) := by decide +kernel
theorem dX9_by_36 : decode cX9_by 36 = .ok (.lload 11, 2) := by decide +kernel
theorem dX9_by_38 : decode cX9_by 38 = .ok (.invokevirtual 145, 3) := by decide +kernel
theorem dX9_by_41 : decode cX9_by 41 = .ok (.lstore 11, 2) := by decide +kernel
theorem dX9_by_43 : decode cX9_by 43 = .ok (.aload_n 0, 1) := by decide +kernel
theorem dX9_by_44 : decode cX9_by 44 = .ok (.lload 9, 2) := by decide +kernel
theorem dX9_by_46 : decode cX9_by 46 = .ok (.lload 11, 2) := by decide +kernel
theorem dX9_by_48 : decode cX9_by 48 = .ok (.invokevirtual 141, 3) := by decide +kernel
theorem dX9_by_51 : decode cX9_by 51 = .ok (.return_, 1) := by decide +kernel
theorem dX9_plus_0 : decode cX9_plus 0 = .ok (.aload_n 0, 1) := by decide +kernel
theorem dX9_plus_1 : decode cX9_plus 1 = .ok (.lload_n 1, 1) := by decide +kernel
theorem dX9_plus_2 : decode cX9_plus 2 = .ok (.lload 7, 2) := by decide +kernel
theorem dX9_plus_4 : decode cX9_plus 4 = .ok (.invokevirtual 137, 3) := by decide +kernel
theorem dX9_plus_7 : decode cX9_plus 7 = .ok (.lstore 9, 2) := by decide +kernel
theorem dX9_plus_9 : decode cX9_plus 9 = .ok (.aload_n 0, 1) := by decide +kernel
theorem dX9_plus_10 : decode cX9_plus 10 = .ok (.lload 9, 2) := by decide +kernel
theorem dX9_plus_12 : decode cX9_plus 12 = .ok (.aload_n 0, 1) := by decide +kernel
theorem dX9_plus_13 : decode cX9_plus 13 = .ok (.lload 5, 2) := by decide +kernel
theorem dX9_plus_15 : decode cX9_plus 15 = .ok (.lload_n 3, 1) := by decide +kernel
theorem dX9_plus_16 : decode cX9_plus 16 = .ok (.invokevirtual 137, 3) := by decide +kernel
theorem dX9_plus_19 : decode cX9_plus 19 = .ok (.invokevirtual 148, 3) := by decide +kernel
theorem dX9_plus_22 : decode cX9_plus 22 = .ok (.lstore 9, 2) := by decide +kernel
theorem dX9_plus_24 : decode cX9_plus 24 = .ok (.aload_n 0, 1) := by decide +kernel
theorem dX9_plus_25 : decode cX9_plus 25 = .ok (.lload 9, 2) := by decide +kernel
theorem dX9_plus_27 : decode cX9_plus 27 = .ok (.aload_n 0, 1) := by decide +kernel
theorem dX9_plus_28 : decode cX9_plus 28 = .ok (.lload_n 3, 1) := by decide +kernel
theorem dX9_plus_29 : decode cX9_plus 29 = .ok (.lload 7, 2) := by decide +kernel
theorem dX9_plus_31 : decode cX9_plus 31 = .ok (.invokevirtual 137, 3) := by decide +kernel
theorem dX9_plus_34 : decode cX9_plus 34 = .ok (.invokevirtual 141, 3) := by decide +kernel
theorem dX9_plus_37 : decode cX9_plus 37 = .ok (.return_, 1) := by decide +kernel
theorem dX9_less_0 : decode cX9_less 0 = .ok (.aload_n 0, 1) := by decide +kernel
theorem dX9_less_1 : decode cX9_less 1 = .ok (.lload_n 1, 1) := by decide +kernel
theorem dX9_less_2 : decode cX9_less 2 = .ok (.lload 7, 2) := by decide +kernel
theorem dX9_less_4 : decode cX9_less 4 = .ok (.invokevirtual 137, 3) := by decide +kernel
theorem dX9_less_7 : decode cX9_less 7 = .ok (.lstore 9, 2) := by decide +kernel
theorem dX9_less_9 : decode cX9_less 9 = .ok (.aload_n 0, 1) := by decide +kernel
theorem dX9_less_10 : decode cX9_less 10 = .ok (.lload 9, 2) := by decide +kernel
theorem dX9_less_12 : decode cX9_less 12 = .ok (.aload_n 0, 1) := by decide +kernel
theorem dX9_less_13 : decode cX9_less 13 = .ok (.lload 5, 2) := by decide +kernel
theorem dX9_less_15 : decode cX9_less 15 = .ok (.lload_n 3, 1) := by decide +kernel
theorem dX9_less_16 : decode cX9_less 16 = .ok (.invokevirtual 137, 3) := by decide +kernel
theorem dX9_less_19 : decode cX9_less 19 = .ok (.invokevirtual 145, 3) := by decide +kernel
theorem dX9_less_22 : decode cX9_less 22 = .ok (.lstore 9, 2) := by decide +kernel
theorem dX9_less_24 : decode cX9_less 24 = .ok (.aload_n 0, 1) := by decide +kernel
theorem dX9_less_25 : decode cX9_less 25 = .ok (.lload 9, 2) := by decide +kernel
theorem dX9_less_27 : decode cX9_less 27 = .ok (.aload_n 0, 1) := by decide +kernel
theorem dX9_less_28 : decode cX9_less 28 = .ok (.lload_n 3, 1) := by decide +kernel
theorem dX9_less_29 : decode cX9_less 29 = .ok (.lload 7, 2) := by decide +kernel
theorem dX9_less_31 : decode cX9_less 31 = .ok (.invokevirtual 137, 3) := by decide +kernel
theorem dX9_less_34 : decode cX9_less 34 = .ok (.invokevirtual 141, 3) := by decide +kernel
theorem dX9_less_37 : decode cX9_less 37 = .ok (.return_, 1) := by decide +kernel
theorem dX9_isLess_0 : decode cX9_isLess 0 = .ok (.aload_n 0, 1) := by decide +kernel
theorem dX9_isLess_1 : decode cX9_isLess 1 = .ok (.lload_n 1, 1) := by decide +kernel
theorem dX9_isLess_2 : decode cX9_isLess 2 = .ok (.lload_n 3, 1) := by decide +kernel
theorem dX9_isLess_3 : decode cX9_isLess 3 = .ok (.lload 5, 2) := by decide +kernel
theorem dX9_isLess_5 : decode cX9_isLess 5 = .ok (.lload 7, 2) := by decide +kernel
theorem dX9_isLess_7 : decode cX9_isLess 7 = .ok (.invokevirtual 151, 3) := by decide +kernel
theorem dX9_isLess_10 : decode cX9_isLess 10 = .ok (.aload_n 0, 1) := by decide +kernel
theorem dX9_isLess_11 : decode cX9_isLess 11 = .ok (.getfield 130, 3) := by decide +kernel
theorem dX9_isLess_14 : decode cX9_isLess 14 = .ok (.lconst 0, 1) := by decide +kernel
theorem dX9_isLess_15 : decode cX9_isLess 15 = .ok (.lcmp, 1) := by decide +kernel
theorem dX9_isLess_16 : decode cX9_isLess 16 = .ok (.ifCond .ge 7, 3) := by decide +kernel
theorem dX9_isLess_19 : decode cX9_isLess 19 = .ok (.iconst 1, 1) := by decide +kernel
theorem dX9_isLess_20 : decode cX9_isLess 20 = .ok (.goto 4, 3) := by decide +kernel
theorem dX9_isLess_23 : decode cX9_isLess 23 = .ok (.iconst 0, 1) := by decide +kernel
theorem dX9_isLess_24 : decode cX9_isLess 24 = .ok (.ireturn, 1) := by decide +kernel
theorem dX9_quartersUp_0 : decode cX9_quartersUp 0 = .ok (.iload_n 0, 1) := by decide +kernel
theorem dX9_quartersUp_1 : decode cX9_quartersUp 1 = .ok (.ifCond .ne 7, 3) := by decide +kernel
theorem dX9_quartersUp_4 : decode cX9_quartersUp 4 = .ok (.lconst 0, 1) := by decide +kernel
theorem dX9_quartersUp_5 : decode cX9_quartersUp 5 = .ok (.goto 23, 3) := by decide +kernel
theorem dX9_quartersUp_8 : decode cX9_quartersUp 8 = .ok (.iload_n 0, 1) := by decide +kernel
theorem dX9_quartersUp_9 : decode cX9_quartersUp 9 = .ok (.iconst 4, 1) := by decide +kernel
theorem dX9_quartersUp_10 : decode cX9_quartersUp 10 = .ok (.if_icmp .ne 7, 3) := by decide +kernel
theorem dX9_quartersUp_13 : decode cX9_quartersUp 13 = .ok (.lconst 1, 1) := by decide +kernel
theorem dX9_quartersUp_14 : decode cX9_quartersUp 14 = .ok (.goto 14, 3) := by decide +kernel
theorem dX9_quartersUp_17 : decode cX9_quartersUp 17 = .ok (.iload_n 0, 1) := by decide +kernel
theorem dX9_quartersUp_18 : decode cX9_quartersUp 18 = .ok (.iconst 2, 1) := by decide +kernel
theorem dX9_quartersUp_19 : decode cX9_quartersUp 19 = .ok (.if_icmp .ne 7, 3) := by decide +kernel
theorem dX9_quartersUp_22 : decode cX9_quartersUp 22 = .ok (.lconst 1, 1) := by decide +kernel
theorem dX9_quartersUp_23 : decode cX9_quartersUp 23 = .ok (.goto 5, 3) := by decide +kernel
theorem dX9_quartersUp_26 : decode cX9_quartersUp 26 = .ok (.iload_n 0, 1) := by decide +kernel
theorem dX9_quartersUp_27 : decode cX9_quartersUp 27 = .ok (.i2l, 1) := by decide +kernel
theorem dX9_quartersUp_28 : decode cX9_quartersUp 28 = .ok (.lreturn, 1) := by decide +kernel
theorem dX9_quartersDown_0 : decode cX9_quartersDown 0 = .ok (.iload_n 0, 1) := by decide +kernel
theorem dX9_quartersDown_1 : decode cX9_quartersDown 1 = .ok (.ifCond .eq 8, 3) := by decide +kernel
theorem dX9_quartersDown_4 : decode cX9_quartersDown 4 = .ok (.iload_n 0, 1) := by decide +kernel
theorem dX9_quartersDown_5 : decode cX9_quartersDown 5 = .ok (.iconst 4, 1) := by decide +kernel
theorem dX9_quartersDown_6 : decode cX9_quartersDown 6 = .ok (.if_icmp .ne 7, 3) := by decide +kernel
theorem dX9_quartersDown_9 : decode cX9_quartersDown 9 = .ok (.lconst 1, 1) := by decide +kernel
theorem dX9_quartersDown_10 : decode cX9_quartersDown 10 = .ok (.goto 17, 3) := by decide +kernel
theorem dX9_quartersDown_13 : decode cX9_quartersDown 13 = .ok (.iload_n 0, 1) := by decide +kernel
theorem dX9_quartersDown_14 : decode cX9_quartersDown 14 = .ok (.iconst 2, 1) := by decide +kernel
theorem dX9_quartersDown_15 : decode cX9_quartersDown 15 = .ok (.if_icmp .ne 9, 3) := by decide +kernel
theorem dX9_quartersDown_18 : decode cX9_quartersDown 18 = .ok (.ldc2_w 155, 3) := by decide +kernel
theorem dX9_quartersDown_21 : decode cX9_quartersDown 21 = .ok (.goto 6, 3) := by decide +kernel
theorem dX9_quartersDown_24 : decode cX9_quartersDown 24 = .ok (.ldc2_w 157, 3) := by decide +kernel
theorem dX9_quartersDown_27 : decode cX9_quartersDown 27 = .ok (.lreturn, 1) := by decide +kernel
theorem dX9_minds_0 : decode cX9_minds 0 = .ok (.iconst 0, 1) := by decide +kernel
theorem dX9_minds_1 : decode cX9_minds 1 = .ok (.istore_n 1, 1) := by decide +kernel
theorem dX9_minds_2 : decode cX9_minds 2 = .ok (.iload_n 1, 1) := by decide +kernel
theorem dX9_minds_3 : decode cX9_minds 3 = .ok (.bipush 6, 2) := by decide +kernel
theorem dX9_minds_5 : decode cX9_minds 5 = .ok (.if_icmp .ge 69, 3) := by decide +kernel
theorem dX9_minds_8 : decode cX9_minds 8 = .ok (.aload_n 0, 1) := by decide +kernel
theorem dX9_minds_9 : decode cX9_minds 9 = .ok (.getfield 56, 3) := by decide +kernel
theorem dX9_minds_12 : decode cX9_minds 12 = .ok (.iload_n 1, 1) := by decide +kernel
theorem dX9_minds_13 : decode cX9_minds 13 = .ok (.aload_n 0, 1) := by decide +kernel
theorem dX9_minds_14 : decode cX9_minds 14 = .ok (.getfield 21, 3) := by decide +kernel
theorem dX9_minds_17 : decode cX9_minds 17 = .ok (.iload_n 1, 1) := by decide +kernel
theorem dX9_minds_18 : decode cX9_minds 18 = .ok (.iaload, 1) := by decide +kernel
theorem dX9_minds_19 : decode cX9_minds 19 = .ok (.iastore, 1) := by decide +kernel
theorem dX9_minds_20 : decode cX9_minds 20 = .ok (.aload_n 0, 1) := by decide +kernel
theorem dX9_minds_21 : decode cX9_minds 21 = .ok (.getfield 59, 3) := by decide +kernel
theorem dX9_minds_24 : decode cX9_minds 24 = .ok (.iload_n 1, 1) := by decide +kernel
theorem dX9_minds_25 : decode cX9_minds 25 = .ok (.aload_n 0, 1) := by decide +kernel
theorem dX9_minds_26 : decode cX9_minds 26 = .ok (.getfield 25, 3) := by decide +kernel
theorem dX9_minds_29 : decode cX9_minds 29 = .ok (.iload_n 1, 1) := by decide +kernel
theorem dX9_minds_30 : decode cX9_minds 30 = .ok (.laload, 1) := by decide +kernel
theorem dX9_minds_31 : decode cX9_minds 31 = .ok (.lastore, 1) := by decide +kernel
theorem dX9_minds_32 : decode cX9_minds 32 = .ok (.aload_n 0, 1) := by decide +kernel
theorem dX9_minds_33 : decode cX9_minds 33 = .ok (.getfield 62, 3) := by decide +kernel
theorem dX9_minds_36 : decode cX9_minds 36 = .ok (.iload_n 1, 1) := by decide +kernel
theorem dX9_minds_37 : decode cX9_minds 37 = .ok (.aload_n 0, 1) := by decide +kernel
theorem dX9_minds_38 : decode cX9_minds 38 = .ok (.getfield 29, 3) := by decide +kernel
theorem dX9_minds_41 : decode cX9_minds 41 = .ok (.iload_n 1, 1) := by decide +kernel
theorem dX9_minds_42 : decode cX9_minds 42 = .ok (.laload, 1) := by decide +kernel
theorem dX9_minds_43 : decode cX9_minds 43 = .ok (.lastore, 1) := by decide +kernel
theorem dX9_minds_44 : decode cX9_minds 44 = .ok (.aload_n 0, 1) := by decide +kernel
theorem dX9_minds_45 : decode cX9_minds 45 = .ok (.getfield 65, 3) := by decide +kernel
theorem dX9_minds_48 : decode cX9_minds 48 = .ok (.iload_n 1, 1) := by decide +kernel
theorem dX9_minds_49 : decode cX9_minds 49 = .ok (.aload_n 0, 1) := by decide +kernel
theorem dX9_minds_50 : decode cX9_minds 50 = .ok (.getfield 32, 3) := by decide +kernel
theorem dX9_minds_53 : decode cX9_minds 53 = .ok (.iload_n 1, 1) := by decide +kernel
theorem dX9_minds_54 : decode cX9_minds 54 = .ok (.laload, 1) := by decide +kernel
theorem dX9_minds_55 : decode cX9_minds 55 = .ok (.lastore, 1) := by decide +kernel
theorem dX9_minds_56 : decode cX9_minds 56 = .ok (.aload_n 0, 1) := by decide +kernel
theorem dX9_minds_57 : decode cX9_minds 57 = .ok (.getfield 68, 3) := by decide +kernel
theorem dX9_minds_60 : decode cX9_minds 60 = .ok (.iload_n 1, 1) := by decide +kernel
theorem dX9_minds_61 : decode cX9_minds 61 = .ok (.aload_n 0, 1) := by decide +kernel
theorem dX9_minds_62 : decode cX9_minds 62 = .ok (.getfield 35, 3) := by decide +kernel
theorem dX9_minds_65 : decode cX9_minds 65 = .ok (.iload_n 1, 1) := by decide +kernel
theorem dX9_minds_66 : decode cX9_minds 66 = .ok (.laload, 1) := by decide +kernel
theorem dX9_minds_67 : decode cX9_minds 67 = .ok (.lastore, 1) := by decide +kernel
theorem dX9_minds_68 : decode cX9_minds 68 = .ok (.iinc 1 1, 3) := by decide +kernel
theorem dX9_minds_71 : decode cX9_minds 71 = .ok (.goto (-69), 3) := by decide +kernel
theorem dX9_minds_74 : decode cX9_minds 74 = .ok (.aload_n 0, 1) := by decide +kernel
theorem dX9_minds_75 : decode cX9_minds 75 = .ok (.aload_n 0, 1) := by decide +kernel
theorem dX9_minds_76 : decode cX9_minds 76 = .ok (.getfield 9, 3) := by decide +kernel
theorem dX9_minds_79 : decode cX9_minds 79 = .ok (.putfield 159, 3) := by decide +kernel
theorem dX9_minds_82 : decode cX9_minds 82 = .ok (.aload_n 0, 1) := by decide +kernel
theorem dX9_minds_83 : decode cX9_minds 83 = .ok (.aload_n 0, 1) := by decide +kernel
theorem dX9_minds_84 : decode cX9_minds 84 = .ok (.getfield 15, 3) := by decide +kernel
theorem dX9_minds_87 : decode cX9_minds 87 = .ok (.putfield 162, 3) := by decide +kernel
theorem dX9_minds_90 : decode cX9_minds 90 = .ok (.aload_n 0, 1) := by decide +kernel
theorem dX9_minds_91 : decode cX9_minds 91 = .ok (.aload_n 0, 1) := by decide +kernel
theorem dX9_minds_92 : decode cX9_minds 92 = .ok (.getfield 18, 3) := by decide +kernel
theorem dX9_minds_95 : decode cX9_minds 95 = .ok (.putfield 165, 3) := by decide +kernel
theorem dX9_minds_98 : decode cX9_minds 98 = .ok (.return_, 1) := by decide +kernel
theorem dX9_offers_0 : decode cX9_offers 0 = .ok (.aload_n 0, 1) := by decide +kernel
theorem dX9_offers_1 : decode cX9_offers 1 = .ok (.getfield 130, 3) := by decide +kernel
theorem dX9_offers_4 : decode cX9_offers 4 = .ok (.lstore_n 2, 1) := by decide +kernel
theorem dX9_offers_5 : decode cX9_offers 5 = .ok (.aload_n 0, 1) := by decide +kernel
theorem dX9_offers_6 : decode cX9_offers 6 = .ok (.getfield 134, 3) := by decide +kernel
theorem dX9_offers_9 : decode cX9_offers 9 = .ok (.lstore 4, 2) := by decide +kernel
theorem dX9_offers_11 : decode cX9_offers 11 = .ok (.aload_n 0, 1) := by decide +kernel
theorem dX9_offers_12 : decode cX9_offers 12 = .ok (.getfield 168, 3) := by decide +kernel
theorem dX9_offers_15 : decode cX9_offers 15 = .ok (.ifCond .lt 22, 3) := by decide +kernel
theorem dX9_offers_18 : decode cX9_offers 18 = .ok (.aload_n 0, 1) := by decide +kernel
theorem dX9_offers_19 : decode cX9_offers 19 = .ok (.lload_n 2, 1) := by decide +kernel
theorem dX9_offers_20 : decode cX9_offers 20 = .ok (.lload 4, 2) := by decide +kernel
theorem dX9_offers_22 : decode cX9_offers 22 = .ok (.aload_n 0, 1) := by decide +kernel
theorem dX9_offers_23 : decode cX9_offers 23 = .ok (.getfield 171, 3) := by decide +kernel
theorem dX9_offers_26 : decode cX9_offers 26 = .ok (.aload_n 0, 1) := by decide +kernel
theorem dX9_offers_27 : decode cX9_offers 27 = .ok (.getfield 174, 3) := by decide +kernel
theorem dX9_offers_30 : decode cX9_offers 30 = .ok (.invokevirtual 177, 3) := by decide +kernel
theorem dX9_offers_33 : decode cX9_offers 33 = .ok (.ifCond .ne 4, 3) := by decide +kernel
theorem dX9_offers_36 : decode cX9_offers 36 = .ok (.return_, 1) := by decide +kernel
theorem dX9_offers_37 : decode cX9_offers 37 = .ok (.aload_n 0, 1) := by decide +kernel
theorem dX9_offers_38 : decode cX9_offers 38 = .ok (.iload_n 1, 1) := by decide +kernel
theorem dX9_offers_39 : decode cX9_offers 39 = .ok (.putfield 168, 3) := by decide +kernel
theorem dX9_offers_42 : decode cX9_offers 42 = .ok (.aload_n 0, 1) := by decide +kernel
theorem dX9_offers_43 : decode cX9_offers 43 = .ok (.lload_n 2, 1) := by decide +kernel
theorem dX9_offers_44 : decode cX9_offers 44 = .ok (.putfield 171, 3) := by decide +kernel
theorem dX9_offers_47 : decode cX9_offers 47 = .ok (.aload_n 0, 1) := by decide +kernel
theorem dX9_offers_48 : decode cX9_offers 48 = .ok (.lload 4, 2) := by decide +kernel
theorem dX9_offers_50 : decode cX9_offers 50 = .ok (.putfield 174, 3) := by decide +kernel
theorem dX9_offers_53 : decode cX9_offers 53 = .ok (.return_, 1) := by decide +kernel
theorem dX9_next_0 : decode cX9_next 0 = .ok (.aload_n 0, 1) := by decide +kernel
theorem dX9_next_1 : decode cX9_next 1 = .ok (.iconst (-1), 1) := by decide +kernel
theorem dX9_next_2 : decode cX9_next 2 = .ok (.putfield 168, 3) := by decide +kernel
theorem dX9_next_5 : decode cX9_next 5 = .ok (.aload_n 0, 1) := by decide +kernel
theorem dX9_next_6 : decode cX9_next 6 = .ok (.getfield 181, 3) := by decide +kernel
theorem dX9_next_9 : decode cX9_next 9 = .ok (.ifCond .le 68, 3) := by decide +kernel
theorem dX9_next_12 : decode cX9_next 12 = .ok (.aload_n 0, 1) := by decide +kernel
theorem dX9_next_13 : decode cX9_next 13 = .ok (.getfield 162, 3) := by decide +kernel
theorem dX9_next_16 : decode cX9_next 16 = .ok (.ifCond .lt 61, 3) := by decide +kernel
theorem dX9_next_19 : decode cX9_next 19 = .ok (.aload_n 0, 1) := by decide +kernel
theorem dX9_next_20 : decode cX9_next 20 = .ok (.getfield 65, 3) := by decide +kernel
theorem dX9_next_23 : decode cX9_next 23 = .ok (.iconst 0, 1) := by decide +kernel
theorem dX9_next_24 : decode cX9_next 24 = .ok (.laload, 1) := by decide +kernel
theorem dX9_next_25 : decode cX9_next 25 = .ok (.lconst 0, 1) := by decide +kernel
theorem dX9_next_26 : decode cX9_next 26 = .ok (.lcmp, 1) := by decide +kernel
theorem dX9_next_27 : decode cX9_next 27 = .ok (.ifCond .ge 50, 3) := by decide +kernel
theorem dX9_next_30 : decode cX9_next 30 = .ok (.aload_n 0, 1) := by decide +kernel
theorem dX9_next_31 : decode cX9_next 31 = .ok (.lconst 0, 1) := by decide +kernel
theorem dX9_next_32 : decode cX9_next 32 = .ok (.lconst 1, 1) := by decide +kernel
theorem dX9_next_33 : decode cX9_next 33 = .ok (.aload_n 0, 1) := by decide +kernel
theorem dX9_next_34 : decode cX9_next 34 = .ok (.getfield 65, 3) := by decide +kernel
theorem dX9_next_37 : decode cX9_next 37 = .ok (.iconst 0, 1) := by decide +kernel
theorem dX9_next_38 : decode cX9_next 38 = .ok (.laload, 1) := by decide +kernel
theorem dX9_next_39 : decode cX9_next 39 = .ok (.aload_n 0, 1) := by decide +kernel
theorem dX9_next_40 : decode cX9_next 40 = .ok (.getfield 68, 3) := by decide +kernel
theorem dX9_next_43 : decode cX9_next 43 = .ok (.iconst 0, 1) := by decide +kernel
theorem dX9_next_44 : decode cX9_next 44 = .ok (.laload, 1) := by decide +kernel
theorem dX9_next_45 : decode cX9_next 45 = .ok (.invokevirtual 151, 3) := by decide +kernel
theorem dX9_next_48 : decode cX9_next 48 = .ok (.aload_n 0, 1) := by decide +kernel
theorem dX9_next_49 : decode cX9_next 49 = .ok (.aload_n 0, 1) := by decide +kernel
theorem dX9_next_50 : decode cX9_next 50 = .ok (.getfield 59, 3) := by decide +kernel
theorem dX9_next_53 : decode cX9_next 53 = .ok (.iconst 0, 1) := by decide +kernel
theorem dX9_next_54 : decode cX9_next 54 = .ok (.laload, 1) := by decide +kernel
theorem dX9_next_55 : decode cX9_next 55 = .ok (.aload_n 0, 1) := by decide +kernel
theorem dX9_next_56 : decode cX9_next 56 = .ok (.getfield 62, 3) := by decide +kernel
theorem dX9_next_59 : decode cX9_next 59 = .ok (.iconst 0, 1) := by decide +kernel
theorem dX9_next_60 : decode cX9_next 60 = .ok (.laload, 1) := by decide +kernel
theorem dX9_next_61 : decode cX9_next 61 = .ok (.aload_n 0, 1) := by decide +kernel
theorem dX9_next_62 : decode cX9_next 62 = .ok (.getfield 130, 3) := by decide +kernel
theorem dX9_next_65 : decode cX9_next 65 = .ok (.aload_n 0, 1) := by decide +kernel
theorem dX9_next_66 : decode cX9_next 66 = .ok (.getfield 134, 3) := by decide +kernel
theorem dX9_next_69 : decode cX9_next 69 = .ok (.invokevirtual 184, 3) := by decide +kernel
theorem dX9_next_72 : decode cX9_next 72 = .ok (.aload_n 0, 1) := by decide +kernel
theorem dX9_next_73 : decode cX9_next 73 = .ok (.iconst 0, 1) := by decide +kernel
theorem dX9_next_74 : decode cX9_next 74 = .ok (.invokevirtual 187, 3) := by decide +kernel
theorem dX9_next_77 : decode cX9_next 77 = .ok (.iconst 0, 1) := by decide +kernel
theorem dX9_next_78 : decode cX9_next 78 = .ok (.istore_n 1, 1) := by decide +kernel
theorem dX9_next_79 : decode cX9_next 79 = .ok (.iload_n 1, 1) := by decide +kernel
theorem dX9_next_80 : decode cX9_next 80 = .ok (.iconst 1, 1) := by decide +kernel
theorem dX9_next_81 : decode cX9_next 81 = .ok (.iadd, 1) := by decide +kernel
theorem dX9_next_82 : decode cX9_next 82 = .ok (.aload_n 0, 1) := by decide +kernel
theorem dX9_next_83 : decode cX9_next 83 = .ok (.getfield 181, 3) := by decide +kernel
theorem dX9_next_86 : decode cX9_next 86 = .ok (.if_icmp .ge 118, 3) := by decide +kernel
theorem dX9_next_89 : decode cX9_next 89 = .ok (.aload_n 0, 1) := by decide +kernel
theorem dX9_next_90 : decode cX9_next 90 = .ok (.aload_n 0, 1) := by decide +kernel
theorem dX9_next_91 : decode cX9_next 91 = .ok (.getfield 65, 3) := by decide +kernel
theorem dX9_next_94 : decode cX9_next 94 = .ok (.iload_n 1, 1) := by decide +kernel
theorem dX9_next_95 : decode cX9_next 95 = .ok (.laload, 1) := by decide +kernel
theorem dX9_next_96 : decode cX9_next 96 = .ok (.aload_n 0, 1) := by decide +kernel
theorem dX9_next_97 : decode cX9_next 97 = .ok (.getfield 68, 3) := by decide +kernel
theorem dX9_next_100 : decode cX9_next 100 = .ok (.iload_n 1, 1) := by decide +kernel
theorem dX9_next_101 : decode cX9_next 101 = .ok (.laload, 1) := by decide +kernel
theorem dX9_next_102 : decode cX9_next 102 = .ok (.aload_n 0, 1) := by decide +kernel
theorem dX9_next_103 : decode cX9_next 103 = .ok (.getfield 65, 3) := by decide +kernel
theorem dX9_next_106 : decode cX9_next 106 = .ok (.iload_n 1, 1) := by decide +kernel
theorem dX9_next_107 : decode cX9_next 107 = .ok (.iconst 1, 1) := by decide +kernel
theorem dX9_next_108 : decode cX9_next 108 = .ok (.iadd, 1) := by decide +kernel
theorem dX9_next_109 : decode cX9_next 109 = .ok (.laload, 1) := by decide +kernel
theorem dX9_next_110 : decode cX9_next 110 = .ok (.aload_n 0, 1) := by decide +kernel
theorem dX9_next_111 : decode cX9_next 111 = .ok (.getfield 68, 3) := by decide +kernel
theorem dX9_next_114 : decode cX9_next 114 = .ok (.iload_n 1, 1) := by decide +kernel
theorem dX9_next_115 : decode cX9_next 115 = .ok (.iconst 1, 1) := by decide +kernel
theorem dX9_next_116 : decode cX9_next 116 = .ok (.iadd, 1) := by decide +kernel
theorem dX9_next_117 : decode cX9_next 117 = .ok (.laload, 1) := by decide +kernel
theorem dX9_next_118 : decode cX9_next 118 = .ok (.invokevirtual 151, 3) := by decide +kernel
theorem dX9_next_121 : decode cX9_next 121 = .ok (.aload_n 0, 1) := by decide +kernel
theorem dX9_next_122 : decode cX9_next 122 = .ok (.getfield 130, 3) := by decide +kernel
theorem dX9_next_125 : decode cX9_next 125 = .ok (.lconst 0, 1) := by decide +kernel
theorem dX9_next_126 : decode cX9_next 126 = .ok (.lcmp, 1) := by decide +kernel
theorem dX9_next_127 : decode cX9_next 127 = .ok (.ifCond .gt 6, 3) := by decide +kernel
theorem dX9_next_130 : decode cX9_next 130 = .ok (.goto 68, 3) := by decide +kernel
theorem dX9_next_133 : decode cX9_next 133 = .ok (.aload_n 0, 1) := by decide +kernel
theorem dX9_next_134 : decode cX9_next 134 = .ok (.getfield 130, 3) := by decide +kernel
theorem dX9_next_137 : decode cX9_next 137 = .ok (.lstore_n 2, 1) := by decide +kernel
theorem dX9_next_138 : decode cX9_next 138 = .ok (.aload_n 0, 1) := by decide +kernel
theorem dX9_next_139 : decode cX9_next 139 = .ok (.getfield 134, 3) := by decide +kernel
theorem dX9_next_142 : decode cX9_next 142 = .ok (.lstore 4, 2) := by decide +kernel
theorem dX9_next_144 : decode cX9_next 144 = .ok (.aload_n 0, 1) := by decide +kernel
theorem dX9_next_145 : decode cX9_next 145 = .ok (.aload_n 0, 1) := by decide +kernel
theorem dX9_next_146 : decode cX9_next 146 = .ok (.getfield 59, 3) := by decide +kernel
theorem dX9_next_149 : decode cX9_next 149 = .ok (.iload_n 1, 1) := by decide +kernel
theorem dX9_next_150 : decode cX9_next 150 = .ok (.iconst 1, 1) := by decide +kernel
theorem dX9_next_151 : decode cX9_next 151 = .ok (.iadd, 1) := by decide +kernel
theorem dX9_next_152 : decode cX9_next 152 = .ok (.laload, 1) := by decide +kernel
theorem dX9_next_153 : decode cX9_next 153 = .ok (.aload_n 0, 1) := by decide +kernel
theorem dX9_next_154 : decode cX9_next 154 = .ok (.getfield 62, 3) := by decide +kernel
theorem dX9_next_157 : decode cX9_next 157 = .ok (.iload_n 1, 1) := by decide +kernel
theorem dX9_next_158 : decode cX9_next 158 = .ok (.iconst 1, 1) := by decide +kernel
theorem dX9_next_159 : decode cX9_next 159 = .ok (.iadd, 1) := by decide +kernel
theorem dX9_next_160 : decode cX9_next 160 = .ok (.laload, 1) := by decide +kernel
theorem dX9_next_161 : decode cX9_next 161 = .ok (.aload_n 0, 1) := by decide +kernel
theorem dX9_next_162 : decode cX9_next 162 = .ok (.getfield 59, 3) := by decide +kernel
theorem dX9_next_165 : decode cX9_next 165 = .ok (.iload_n 1, 1) := by decide +kernel
theorem dX9_next_166 : decode cX9_next 166 = .ok (.laload, 1) := by decide +kernel
theorem dX9_next_167 : decode cX9_next 167 = .ok (.aload_n 0, 1) := by decide +kernel
theorem dX9_next_168 : decode cX9_next 168 = .ok (.getfield 62, 3) := by decide +kernel
theorem dX9_next_171 : decode cX9_next 171 = .ok (.iload_n 1, 1) := by decide +kernel
theorem dX9_next_172 : decode cX9_next 172 = .ok (.laload, 1) := by decide +kernel
theorem dX9_next_173 : decode cX9_next 173 = .ok (.invokevirtual 151, 3) := by decide +kernel
theorem dX9_next_176 : decode cX9_next 176 = .ok (.aload_n 0, 1) := by decide +kernel
theorem dX9_next_177 : decode cX9_next 177 = .ok (.aload_n 0, 1) := by decide +kernel
theorem dX9_next_178 : decode cX9_next 178 = .ok (.getfield 130, 3) := by decide +kernel
theorem dX9_next_181 : decode cX9_next 181 = .ok (.aload_n 0, 1) := by decide +kernel
theorem dX9_next_182 : decode cX9_next 182 = .ok (.getfield 134, 3) := by decide +kernel
theorem dX9_next_185 : decode cX9_next 185 = .ok (.lload_n 2, 1) := by decide +kernel
theorem dX9_next_186 : decode cX9_next 186 = .ok (.lload 4, 2) := by decide +kernel
theorem dX9_next_188 : decode cX9_next 188 = .ok (.invokevirtual 184, 3) := by decide +kernel
theorem dX9_next_191 : decode cX9_next 191 = .ok (.aload_n 0, 1) := by decide +kernel
theorem dX9_next_192 : decode cX9_next 192 = .ok (.iload_n 1, 1) := by decide +kernel
theorem dX9_next_193 : decode cX9_next 193 = .ok (.iconst 1, 1) := by decide +kernel
theorem dX9_next_194 : decode cX9_next 194 = .ok (.iadd, 1) := by decide +kernel
theorem dX9_next_195 : decode cX9_next 195 = .ok (.invokevirtual 187, 3) := by decide +kernel
theorem dX9_next_198 : decode cX9_next 198 = .ok (.iinc 1 1, 3) := by decide +kernel
theorem dX9_next_201 : decode cX9_next 201 = .ok (.goto (-122), 3) := by decide +kernel
theorem dX9_next_204 : decode cX9_next 204 = .ok (.aload_n 0, 1) := by decide +kernel
theorem dX9_next_205 : decode cX9_next 205 = .ok (.getfield 181, 3) := by decide +kernel
theorem dX9_next_208 : decode cX9_next 208 = .ok (.ifCond .le 96, 3) := by decide +kernel
theorem dX9_next_211 : decode cX9_next 211 = .ok (.aload_n 0, 1) := by decide +kernel
theorem dX9_next_212 : decode cX9_next 212 = .ok (.getfield 165, 3) := by decide +kernel
theorem dX9_next_215 : decode cX9_next 215 = .ok (.ifCond .lt 89, 3) := by decide +kernel
theorem dX9_next_218 : decode cX9_next 218 = .ok (.aload_n 0, 1) := by decide +kernel
theorem dX9_next_219 : decode cX9_next 219 = .ok (.getfield 65, 3) := by decide +kernel
theorem dX9_next_222 : decode cX9_next 222 = .ok (.aload_n 0, 1) := by decide +kernel
theorem dX9_next_223 : decode cX9_next 223 = .ok (.getfield 181, 3) := by decide +kernel
theorem dX9_next_226 : decode cX9_next 226 = .ok (.iconst 1, 1) := by decide +kernel
theorem dX9_next_227 : decode cX9_next 227 = .ok (.isub, 1) := by decide +kernel
theorem dX9_next_228 : decode cX9_next 228 = .ok (.laload, 1) := by decide +kernel
theorem dX9_next_229 : decode cX9_next 229 = .ok (.lconst 0, 1) := by decide +kernel
theorem dX9_next_230 : decode cX9_next 230 = .ok (.lcmp, 1) := by decide +kernel
theorem dX9_next_231 : decode cX9_next 231 = .ok (.ifCond .le 73, 3) := by decide +kernel
theorem dX9_next_234 : decode cX9_next 234 = .ok (.aload_n 0, 1) := by decide +kernel
theorem dX9_next_235 : decode cX9_next 235 = .ok (.ldc2_w 191, 3) := by decide +kernel
theorem dX9_next_238 : decode cX9_next 238 = .ok (.lconst 1, 1) := by decide +kernel
theorem dX9_next_239 : decode cX9_next 239 = .ok (.aload_n 0, 1) := by decide +kernel
theorem dX9_next_240 : decode cX9_next 240 = .ok (.getfield 59, 3) := by decide +kernel
theorem dX9_next_243 : decode cX9_next 243 = .ok (.aload_n 0, 1) := by decide +kernel
theorem dX9_next_244 : decode cX9_next 244 = .ok (.getfield 181, 3) := by decide +kernel
theorem dX9_next_247 : decode cX9_next 247 = .ok (.iconst 1, 1) := by decide +kernel
theorem dX9_next_248 : decode cX9_next 248 = .ok (.isub, 1) := by decide +kernel
theorem dX9_next_249 : decode cX9_next 249 = .ok (.laload, 1) := by decide +kernel
theorem dX9_next_250 : decode cX9_next 250 = .ok (.aload_n 0, 1) := by decide +kernel
theorem dX9_next_251 : decode cX9_next 251 = .ok (.getfield 62, 3) := by decide +kernel
theorem dX9_next_254 : decode cX9_next 254 = .ok (.aload_n 0, 1) := by decide +kernel
theorem dX9_next_255 : decode cX9_next 255 = .ok (.getfield 181, 3) := by decide +kernel
theorem dX9_next_258 : decode cX9_next 258 = .ok (.iconst 1, 1) := by decide +kernel
theorem dX9_next_259 : decode cX9_next 259 = .ok (.isub, 1) := by decide +kernel
theorem dX9_next_260 : decode cX9_next 260 = .ok (.laload, 1) := by decide +kernel
theorem dX9_next_261 : decode cX9_next 261 = .ok (.invokevirtual 151, 3) := by decide +kernel
theorem dX9_next_264 : decode cX9_next 264 = .ok (.aload_n 0, 1) := by decide +kernel
theorem dX9_next_265 : decode cX9_next 265 = .ok (.aload_n 0, 1) := by decide +kernel
theorem dX9_next_266 : decode cX9_next 266 = .ok (.getfield 130, 3) := by decide +kernel
theorem dX9_next_269 : decode cX9_next 269 = .ok (.aload_n 0, 1) := by decide +kernel
theorem dX9_next_270 : decode cX9_next 270 = .ok (.getfield 134, 3) := by decide +kernel
theorem dX9_next_273 : decode cX9_next 273 = .ok (.aload_n 0, 1) := by decide +kernel
theorem dX9_next_274 : decode cX9_next 274 = .ok (.getfield 65, 3) := by decide +kernel
theorem dX9_next_277 : decode cX9_next 277 = .ok (.aload_n 0, 1) := by decide +kernel
theorem dX9_next_278 : decode cX9_next 278 = .ok (.getfield 181, 3) := by decide +kernel
theorem dX9_next_281 : decode cX9_next 281 = .ok (.iconst 1, 1) := by decide +kernel
theorem dX9_next_282 : decode cX9_next 282 = .ok (.isub, 1) := by decide +kernel
theorem dX9_next_283 : decode cX9_next 283 = .ok (.laload, 1) := by decide +kernel
theorem dX9_next_284 : decode cX9_next 284 = .ok (.aload_n 0, 1) := by decide +kernel
theorem dX9_next_285 : decode cX9_next 285 = .ok (.getfield 68, 3) := by decide +kernel
theorem dX9_next_288 : decode cX9_next 288 = .ok (.aload_n 0, 1) := by decide +kernel
theorem dX9_next_289 : decode cX9_next 289 = .ok (.getfield 181, 3) := by decide +kernel
theorem dX9_next_292 : decode cX9_next 292 = .ok (.iconst 1, 1) := by decide +kernel
theorem dX9_next_293 : decode cX9_next 293 = .ok (.isub, 1) := by decide +kernel
theorem dX9_next_294 : decode cX9_next 294 = .ok (.laload, 1) := by decide +kernel
theorem dX9_next_295 : decode cX9_next 295 = .ok (.invokevirtual 184, 3) := by decide +kernel
theorem dX9_next_298 : decode cX9_next 298 = .ok (.aload_n 0, 1) := by decide +kernel
theorem dX9_next_299 : decode cX9_next 299 = .ok (.bipush 9, 2) := by decide +kernel
theorem dX9_next_301 : decode cX9_next 301 = .ok (.invokevirtual 187, 3) := by decide +kernel
theorem dX9_next_304 : decode cX9_next 304 = .ok (.aload_n 0, 1) := by decide +kernel
theorem dX9_next_305 : decode cX9_next 305 = .ok (.getfield 168, 3) := by decide +kernel
theorem dX9_next_308 : decode cX9_next 308 = .ok (.ireturn, 1) := by decide +kernel
theorem dX9_moves_0 : decode cX9_moves 0 = .ok (.aload_n 0, 1) := by decide +kernel
theorem dX9_moves_1 : decode cX9_moves 1 = .ok (.aload_n 0, 1) := by decide +kernel
theorem dX9_moves_2 : decode cX9_moves 2 = .ok (.getfield 193, 3) := by decide +kernel
theorem dX9_moves_5 : decode cX9_moves 5 = .ok (.aload_n 0, 1) := by decide +kernel
theorem dX9_moves_6 : decode cX9_moves 6 = .ok (.getfield 196, 3) := by decide +kernel
theorem dX9_moves_9 : decode cX9_moves 9 = .ok (.aload_n 0, 1) := by decide +kernel
theorem dX9_moves_10 : decode cX9_moves 10 = .ok (.getfield 171, 3) := by decide +kernel
theorem dX9_moves_13 : decode cX9_moves 13 = .ok (.aload_n 0, 1) := by decide +kernel
theorem dX9_moves_14 : decode cX9_moves 14 = .ok (.getfield 174, 3) := by decide +kernel
theorem dX9_moves_17 : decode cX9_moves 17 = .ok (.invokevirtual 199, 3) := by decide +kernel
theorem dX9_moves_20 : decode cX9_moves 20 = .ok (.aload_n 0, 1) := by decide +kernel
theorem dX9_moves_21 : decode cX9_moves 21 = .ok (.aload_n 0, 1) := by decide +kernel
theorem dX9_moves_22 : decode cX9_moves 22 = .ok (.getfield 130, 3) := by decide +kernel
theorem dX9_moves_25 : decode cX9_moves 25 = .ok (.putfield 202, 3) := by decide +kernel
theorem dX9_moves_28 : decode cX9_moves 28 = .ok (.aload_n 0, 1) := by decide +kernel
theorem dX9_moves_29 : decode cX9_moves 29 = .ok (.aload_n 0, 1) := by decide +kernel
theorem dX9_moves_30 : decode cX9_moves 30 = .ok (.getfield 134, 3) := by decide +kernel
theorem dX9_moves_33 : decode cX9_moves 33 = .ok (.putfield 205, 3) := by decide +kernel
theorem dX9_moves_36 : decode cX9_moves 36 = .ok (.iconst 0, 1) := by decide +kernel
theorem dX9_moves_37 : decode cX9_moves 37 = .ok (.istore_n 1, 1) := by decide +kernel
theorem dX9_moves_38 : decode cX9_moves 38 = .ok (.iload_n 1, 1) := by decide +kernel
theorem dX9_moves_39 : decode cX9_moves 39 = .ok (.aload_n 0, 1) := by decide +kernel
theorem dX9_moves_40 : decode cX9_moves 40 = .ok (.getfield 181, 3) := by decide +kernel
theorem dX9_moves_43 : decode cX9_moves 43 = .ok (.if_icmp .ge 77, 3) := by decide +kernel
theorem dX9_moves_46 : decode cX9_moves 46 = .ok (.aload_n 0, 1) := by decide +kernel
theorem dX9_moves_47 : decode cX9_moves 47 = .ok (.aload_n 0, 1) := by decide +kernel
theorem dX9_moves_48 : decode cX9_moves 48 = .ok (.getfield 65, 3) := by decide +kernel
theorem dX9_moves_51 : decode cX9_moves 51 = .ok (.iload_n 1, 1) := by decide +kernel
theorem dX9_moves_52 : decode cX9_moves 52 = .ok (.laload, 1) := by decide +kernel
theorem dX9_moves_53 : decode cX9_moves 53 = .ok (.aload_n 0, 1) := by decide +kernel
theorem dX9_moves_54 : decode cX9_moves 54 = .ok (.getfield 68, 3) := by decide +kernel
theorem dX9_moves_57 : decode cX9_moves 57 = .ok (.iload_n 1, 1) := by decide +kernel
theorem dX9_moves_58 : decode cX9_moves 58 = .ok (.laload, 1) := by decide +kernel
theorem dX9_moves_59 : decode cX9_moves 59 = .ok (.aload_n 0, 1) := by decide +kernel
theorem dX9_moves_60 : decode cX9_moves 60 = .ok (.getfield 171, 3) := by decide +kernel
theorem dX9_moves_63 : decode cX9_moves 63 = .ok (.aload_n 0, 1) := by decide +kernel
theorem dX9_moves_64 : decode cX9_moves 64 = .ok (.getfield 174, 3) := by decide +kernel
theorem dX9_moves_67 : decode cX9_moves 67 = .ok (.invokevirtual 208, 3) := by decide +kernel
theorem dX9_moves_70 : decode cX9_moves 70 = .ok (.aload_n 0, 1) := by decide +kernel
theorem dX9_moves_71 : decode cX9_moves 71 = .ok (.aload_n 0, 1) := by decide +kernel
theorem dX9_moves_72 : decode cX9_moves 72 = .ok (.getfield 59, 3) := by decide +kernel
theorem dX9_moves_75 : decode cX9_moves 75 = .ok (.iload_n 1, 1) := by decide +kernel
theorem dX9_moves_76 : decode cX9_moves 76 = .ok (.laload, 1) := by decide +kernel
theorem dX9_moves_77 : decode cX9_moves 77 = .ok (.aload_n 0, 1) := by decide +kernel
theorem dX9_moves_78 : decode cX9_moves 78 = .ok (.getfield 62, 3) := by decide +kernel
theorem dX9_moves_81 : decode cX9_moves 81 = .ok (.iload_n 1, 1) := by decide +kernel
theorem dX9_moves_82 : decode cX9_moves 82 = .ok (.laload, 1) := by decide +kernel
theorem dX9_moves_83 : decode cX9_moves 83 = .ok (.aload_n 0, 1) := by decide +kernel
theorem dX9_moves_84 : decode cX9_moves 84 = .ok (.getfield 130, 3) := by decide +kernel
theorem dX9_moves_87 : decode cX9_moves 87 = .ok (.aload_n 0, 1) := by decide +kernel
theorem dX9_moves_88 : decode cX9_moves 88 = .ok (.getfield 134, 3) := by decide +kernel
theorem dX9_moves_91 : decode cX9_moves 91 = .ok (.invokevirtual 199, 3) := by decide +kernel
theorem dX9_moves_94 : decode cX9_moves 94 = .ok (.aload_n 0, 1) := by decide +kernel
theorem dX9_moves_95 : decode cX9_moves 95 = .ok (.getfield 71, 3) := by decide +kernel
theorem dX9_moves_98 : decode cX9_moves 98 = .ok (.iload_n 1, 1) := by decide +kernel
theorem dX9_moves_99 : decode cX9_moves 99 = .ok (.aload_n 0, 1) := by decide +kernel
theorem dX9_moves_100 : decode cX9_moves 100 = .ok (.getfield 130, 3) := by decide +kernel
theorem dX9_moves_103 : decode cX9_moves 103 = .ok (.lastore, 1) := by decide +kernel
theorem dX9_moves_104 : decode cX9_moves 104 = .ok (.aload_n 0, 1) := by decide +kernel
theorem dX9_moves_105 : decode cX9_moves 105 = .ok (.getfield 74, 3) := by decide +kernel
theorem dX9_moves_108 : decode cX9_moves 108 = .ok (.iload_n 1, 1) := by decide +kernel
theorem dX9_moves_109 : decode cX9_moves 109 = .ok (.aload_n 0, 1) := by decide +kernel
theorem dX9_moves_110 : decode cX9_moves 110 = .ok (.getfield 134, 3) := by decide +kernel
theorem dX9_moves_113 : decode cX9_moves 113 = .ok (.lastore, 1) := by decide +kernel
theorem dX9_moves_114 : decode cX9_moves 114 = .ok (.iinc 1 1, 3) := by decide +kernel
theorem dX9_moves_117 : decode cX9_moves 117 = .ok (.goto (-79), 3) := by decide +kernel
theorem dX9_moves_120 : decode cX9_moves 120 = .ok (.return_, 1) := by decide +kernel
theorem dX9_turnsBack_0 : decode cX9_turnsBack 0 = .ok (.aload_n 0, 1) := by decide +kernel
theorem dX9_turnsBack_1 : decode cX9_turnsBack 1 = .ok (.aload_n 0, 1) := by decide +kernel
theorem dX9_turnsBack_2 : decode cX9_turnsBack 2 = .ok (.getfield 65, 3) := by decide +kernel
theorem dX9_turnsBack_5 : decode cX9_turnsBack 5 = .ok (.iload_n 1, 1) := by decide +kernel
theorem dX9_turnsBack_6 : decode cX9_turnsBack 6 = .ok (.laload, 1) := by decide +kernel
theorem dX9_turnsBack_7 : decode cX9_turnsBack 7 = .ok (.aload_n 0, 1) := by decide +kernel
theorem dX9_turnsBack_8 : decode cX9_turnsBack 8 = .ok (.getfield 68, 3) := by decide +kernel
theorem dX9_turnsBack_11 : decode cX9_turnsBack 11 = .ok (.iload_n 1, 1) := by decide +kernel
theorem dX9_turnsBack_12 : decode cX9_turnsBack 12 = .ok (.laload, 1) := by decide +kernel
theorem dX9_turnsBack_13 : decode cX9_turnsBack 13 = .ok (.iload_n 2, 1) := by decide +kernel
theorem dX9_turnsBack_14 : decode cX9_turnsBack 14 = .ok (.invokestatic 211, 3) := by decide +kernel
theorem dX9_turnsBack_17 : decode cX9_turnsBack 17 = .ok (.iload_n 2, 1) := by decide +kernel
theorem dX9_turnsBack_18 : decode cX9_turnsBack 18 = .ok (.invokestatic 215, 3) := by decide +kernel
theorem dX9_turnsBack_21 : decode cX9_turnsBack 21 = .ok (.invokevirtual 208, 3) := by decide +kernel
theorem dX9_turnsBack_24 : decode cX9_turnsBack 24 = .ok (.aload_n 0, 1) := by decide +kernel
theorem dX9_turnsBack_25 : decode cX9_turnsBack 25 = .ok (.lconst 0, 1) := by decide +kernel
theorem dX9_turnsBack_26 : decode cX9_turnsBack 26 = .ok (.lconst 1, 1) := by decide +kernel
theorem dX9_turnsBack_27 : decode cX9_turnsBack 27 = .ok (.aload_n 0, 1) := by decide +kernel
theorem dX9_turnsBack_28 : decode cX9_turnsBack 28 = .ok (.getfield 130, 3) := by decide +kernel
theorem dX9_turnsBack_31 : decode cX9_turnsBack 31 = .ok (.aload_n 0, 1) := by decide +kernel
theorem dX9_turnsBack_32 : decode cX9_turnsBack 32 = .ok (.getfield 134, 3) := by decide +kernel
theorem dX9_turnsBack_35 : decode cX9_turnsBack 35 = .ok (.invokevirtual 151, 3) := by decide +kernel
theorem dX9_turnsBack_38 : decode cX9_turnsBack 38 = .ok (.aload_n 0, 1) := by decide +kernel
theorem dX9_turnsBack_39 : decode cX9_turnsBack 39 = .ok (.aload_n 0, 1) := by decide +kernel
theorem dX9_turnsBack_40 : decode cX9_turnsBack 40 = .ok (.getfield 130, 3) := by decide +kernel
theorem dX9_turnsBack_43 : decode cX9_turnsBack 43 = .ok (.putfield 218, 3) := by decide +kernel
theorem dX9_turnsBack_46 : decode cX9_turnsBack 46 = .ok (.aload_n 0, 1) := by decide +kernel
theorem dX9_turnsBack_47 : decode cX9_turnsBack 47 = .ok (.aload_n 0, 1) := by decide +kernel
theorem dX9_turnsBack_48 : decode cX9_turnsBack 48 = .ok (.getfield 134, 3) := by decide +kernel
theorem dX9_turnsBack_51 : decode cX9_turnsBack 51 = .ok (.putfield 221, 3) := by decide +kernel
theorem dX9_turnsBack_54 : decode cX9_turnsBack 54 = .ok (.return_, 1) := by decide +kernel
theorem dX9_pushes_0 : decode cX9_pushes 0 = .ok (.iload_n 1, 1) := by decide +kernel
theorem dX9_pushes_1 : decode cX9_pushes 1 = .ok (.iconst 1, 1) := by decide +kernel
theorem dX9_pushes_2 : decode cX9_pushes 2 = .ok (.iadd, 1) := by decide +kernel
theorem dX9_pushes_3 : decode cX9_pushes 3 = .ok (.istore_n 2, 1) := by decide +kernel
theorem dX9_pushes_4 : decode cX9_pushes 4 = .ok (.aload_n 0, 1) := by decide +kernel
theorem dX9_pushes_5 : decode cX9_pushes 5 = .ok (.getfield 56, 3) := by decide +kernel
theorem dX9_pushes_8 : decode cX9_pushes 8 = .ok (.iload_n 1, 1) := by decide +kernel
theorem dX9_pushes_9 : decode cX9_pushes 9 = .ok (.iaload, 1) := by decide +kernel
theorem dX9_pushes_10 : decode cX9_pushes 10 = .ok (.aload_n 0, 1) := by decide +kernel
theorem dX9_pushes_11 : decode cX9_pushes 11 = .ok (.getfield 56, 3) := by decide +kernel
theorem dX9_pushes_14 : decode cX9_pushes 14 = .ok (.iload_n 2, 1) := by decide +kernel
theorem dX9_pushes_15 : decode cX9_pushes 15 = .ok (.iaload, 1) := by decide +kernel
theorem dX9_pushes_16 : decode cX9_pushes 16 = .ok (.iadd, 1) := by decide +kernel
theorem dX9_pushes_17 : decode cX9_pushes 17 = .ok (.i2l, 1) := by decide +kernel
theorem dX9_pushes_18 : decode cX9_pushes 18 = .ok (.lstore_n 3, 1) := by decide +kernel
theorem dX9_pushes_19 : decode cX9_pushes 19 = .ok (.aload_n 0, 1) := by decide +kernel
theorem dX9_pushes_20 : decode cX9_pushes 20 = .ok (.aload_n 0, 1) := by decide +kernel
theorem dX9_pushes_21 : decode cX9_pushes 21 = .ok (.getfield 65, 3) := by decide +kernel
theorem dX9_pushes_24 : decode cX9_pushes 24 = .ok (.iload_n 1, 1) := by decide +kernel
theorem dX9_pushes_25 : decode cX9_pushes 25 = .ok (.laload, 1) := by decide +kernel
theorem dX9_pushes_26 : decode cX9_pushes 26 = .ok (.aload_n 0, 1) := by decide +kernel
theorem dX9_pushes_27 : decode cX9_pushes 27 = .ok (.getfield 68, 3) := by decide +kernel
theorem dX9_pushes_30 : decode cX9_pushes 30 = .ok (.iload_n 1, 1) := by decide +kernel
theorem dX9_pushes_31 : decode cX9_pushes 31 = .ok (.laload, 1) := by decide +kernel
theorem dX9_pushes_32 : decode cX9_pushes 32 = .ok (.aload_n 0, 1) := by decide +kernel
theorem dX9_pushes_33 : decode cX9_pushes 33 = .ok (.getfield 56, 3) := by decide +kernel
theorem dX9_pushes_36 : decode cX9_pushes 36 = .ok (.iload_n 1, 1) := by decide +kernel
theorem dX9_pushes_37 : decode cX9_pushes 37 = .ok (.iaload, 1) := by decide +kernel
theorem dX9_pushes_38 : decode cX9_pushes 38 = .ok (.i2l, 1) := by decide +kernel
theorem dX9_pushes_39 : decode cX9_pushes 39 = .ok (.lconst 1, 1) := by decide +kernel
theorem dX9_pushes_40 : decode cX9_pushes 40 = .ok (.invokevirtual 208, 3) := by decide +kernel
theorem dX9_pushes_43 : decode cX9_pushes 43 = .ok (.aload_n 0, 1) := by decide +kernel
theorem dX9_pushes_44 : decode cX9_pushes 44 = .ok (.getfield 130, 3) := by decide +kernel
theorem dX9_pushes_47 : decode cX9_pushes 47 = .ok (.lstore 5, 2) := by decide +kernel
theorem dX9_pushes_49 : decode cX9_pushes 49 = .ok (.aload_n 0, 1) := by decide +kernel
theorem dX9_pushes_50 : decode cX9_pushes 50 = .ok (.getfield 134, 3) := by decide +kernel
theorem dX9_pushes_53 : decode cX9_pushes 53 = .ok (.lstore 7, 2) := by decide +kernel
theorem dX9_pushes_55 : decode cX9_pushes 55 = .ok (.aload_n 0, 1) := by decide +kernel
theorem dX9_pushes_56 : decode cX9_pushes 56 = .ok (.aload_n 0, 1) := by decide +kernel
theorem dX9_pushes_57 : decode cX9_pushes 57 = .ok (.getfield 65, 3) := by decide +kernel
theorem dX9_pushes_60 : decode cX9_pushes 60 = .ok (.iload_n 2, 1) := by decide +kernel
theorem dX9_pushes_61 : decode cX9_pushes 61 = .ok (.laload, 1) := by decide +kernel
theorem dX9_pushes_62 : decode cX9_pushes 62 = .ok (.aload_n 0, 1) := by decide +kernel
theorem dX9_pushes_63 : decode cX9_pushes 63 = .ok (.getfield 68, 3) := by decide +kernel
theorem dX9_pushes_66 : decode cX9_pushes 66 = .ok (.iload_n 2, 1) := by decide +kernel
theorem dX9_pushes_67 : decode cX9_pushes 67 = .ok (.laload, 1) := by decide +kernel
theorem dX9_pushes_68 : decode cX9_pushes 68 = .ok (.aload_n 0, 1) := by decide +kernel
theorem dX9_pushes_69 : decode cX9_pushes 69 = .ok (.getfield 56, 3) := by decide +kernel
theorem dX9_pushes_72 : decode cX9_pushes 72 = .ok (.iload_n 2, 1) := by decide +kernel
theorem dX9_pushes_73 : decode cX9_pushes 73 = .ok (.iaload, 1) := by decide +kernel
theorem dX9_pushes_74 : decode cX9_pushes 74 = .ok (.i2l, 1) := by decide +kernel
theorem dX9_pushes_75 : decode cX9_pushes 75 = .ok (.lconst 1, 1) := by decide +kernel
theorem dX9_pushes_76 : decode cX9_pushes 76 = .ok (.invokevirtual 208, 3) := by decide +kernel
theorem dX9_pushes_79 : decode cX9_pushes 79 = .ok (.aload_n 0, 1) := by decide +kernel
theorem dX9_pushes_80 : decode cX9_pushes 80 = .ok (.lload 5, 2) := by decide +kernel
theorem dX9_pushes_82 : decode cX9_pushes 82 = .ok (.lload 7, 2) := by decide +kernel
theorem dX9_pushes_84 : decode cX9_pushes 84 = .ok (.aload_n 0, 1) := by decide +kernel
theorem dX9_pushes_85 : decode cX9_pushes 85 = .ok (.getfield 130, 3) := by decide +kernel
theorem dX9_pushes_88 : decode cX9_pushes 88 = .ok (.aload_n 0, 1) := by decide +kernel
theorem dX9_pushes_89 : decode cX9_pushes 89 = .ok (.getfield 134, 3) := by decide +kernel
theorem dX9_pushes_92 : decode cX9_pushes 92 = .ok (.invokevirtual 199, 3) := by decide +kernel
theorem dX9_pushes_95 : decode cX9_pushes 95 = .ok (.aload_n 0, 1) := by decide +kernel
theorem dX9_pushes_96 : decode cX9_pushes 96 = .ok (.aload_n 0, 1) := by decide +kernel
theorem dX9_pushes_97 : decode cX9_pushes 97 = .ok (.getfield 130, 3) := by decide +kernel
theorem dX9_pushes_100 : decode cX9_pushes 100 = .ok (.aload_n 0, 1) := by decide +kernel
theorem dX9_pushes_101 : decode cX9_pushes 101 = .ok (.getfield 134, 3) := by decide +kernel
theorem dX9_pushes_104 : decode cX9_pushes 104 = .ok (.lload_n 3, 1) := by decide +kernel
theorem dX9_pushes_105 : decode cX9_pushes 105 = .ok (.lconst 1, 1) := by decide +kernel
theorem dX9_pushes_106 : decode cX9_pushes 106 = .ok (.invokevirtual 184, 3) := by decide +kernel
theorem dX9_pushes_109 : decode cX9_pushes 109 = .ok (.aload_n 0, 1) := by decide +kernel
theorem dX9_pushes_110 : decode cX9_pushes 110 = .ok (.getfield 130, 3) := by decide +kernel
theorem dX9_pushes_113 : decode cX9_pushes 113 = .ok (.lstore 9, 2) := by decide +kernel
theorem dX9_pushes_115 : decode cX9_pushes 115 = .ok (.aload_n 0, 1) := by decide +kernel
theorem dX9_pushes_116 : decode cX9_pushes 116 = .ok (.getfield 134, 3) := by decide +kernel
theorem dX9_pushes_119 : decode cX9_pushes 119 = .ok (.lstore 11, 2) := by decide +kernel
theorem dX9_pushes_121 : decode cX9_pushes 121 = .ok (.aload_n 0, 1) := by decide +kernel
theorem dX9_pushes_122 : decode cX9_pushes 122 = .ok (.aload_n 0, 1) := by decide +kernel
theorem dX9_pushes_123 : decode cX9_pushes 123 = .ok (.getfield 65, 3) := by decide +kernel
theorem dX9_pushes_126 : decode cX9_pushes 126 = .ok (.iload_n 1, 1) := by decide +kernel
theorem dX9_pushes_127 : decode cX9_pushes 127 = .ok (.laload, 1) := by decide +kernel
theorem dX9_pushes_128 : decode cX9_pushes 128 = .ok (.aload_n 0, 1) := by decide +kernel
theorem dX9_pushes_129 : decode cX9_pushes 129 = .ok (.getfield 68, 3) := by decide +kernel
theorem dX9_pushes_132 : decode cX9_pushes 132 = .ok (.iload_n 1, 1) := by decide +kernel
theorem dX9_pushes_133 : decode cX9_pushes 133 = .ok (.laload, 1) := by decide +kernel
theorem dX9_pushes_134 : decode cX9_pushes 134 = .ok (.aload_n 0, 1) := by decide +kernel
theorem dX9_pushes_135 : decode cX9_pushes 135 = .ok (.getfield 65, 3) := by decide +kernel
theorem dX9_pushes_138 : decode cX9_pushes 138 = .ok (.iload_n 2, 1) := by decide +kernel
theorem dX9_pushes_139 : decode cX9_pushes 139 = .ok (.laload, 1) := by decide +kernel
theorem dX9_pushes_140 : decode cX9_pushes 140 = .ok (.aload_n 0, 1) := by decide +kernel
theorem dX9_pushes_141 : decode cX9_pushes 141 = .ok (.getfield 68, 3) := by decide +kernel
theorem dX9_pushes_144 : decode cX9_pushes 144 = .ok (.iload_n 2, 1) := by decide +kernel
theorem dX9_pushes_145 : decode cX9_pushes 145 = .ok (.laload, 1) := by decide +kernel
theorem dX9_pushes_146 : decode cX9_pushes 146 = .ok (.invokevirtual 151, 3) := by decide +kernel
theorem dX9_pushes_149 : decode cX9_pushes 149 = .ok (.aload_n 0, 1) := by decide +kernel
theorem dX9_pushes_150 : decode cX9_pushes 150 = .ok (.aload_n 0, 1) := by decide +kernel
theorem dX9_pushes_151 : decode cX9_pushes 151 = .ok (.getfield 130, 3) := by decide +kernel
theorem dX9_pushes_154 : decode cX9_pushes 154 = .ok (.aload_n 0, 1) := by decide +kernel
theorem dX9_pushes_155 : decode cX9_pushes 155 = .ok (.getfield 134, 3) := by decide +kernel
theorem dX9_pushes_158 : decode cX9_pushes 158 = .ok (.aload_n 0, 1) := by decide +kernel
theorem dX9_pushes_159 : decode cX9_pushes 159 = .ok (.getfield 159, 3) := by decide +kernel
theorem dX9_pushes_162 : decode cX9_pushes 162 = .ok (.invokestatic 211, 3) := by decide +kernel
theorem dX9_pushes_165 : decode cX9_pushes 165 = .ok (.aload_n 0, 1) := by decide +kernel
theorem dX9_pushes_166 : decode cX9_pushes 166 = .ok (.getfield 159, 3) := by decide +kernel
theorem dX9_pushes_169 : decode cX9_pushes 169 = .ok (.invokestatic 215, 3) := by decide +kernel
theorem dX9_pushes_172 : decode cX9_pushes 172 = .ok (.invokevirtual 208, 3) := by decide +kernel
theorem dX9_pushes_175 : decode cX9_pushes 175 = .ok (.aload_n 0, 1) := by decide +kernel
theorem dX9_pushes_176 : decode cX9_pushes 176 = .ok (.getfield 130, 3) := by decide +kernel
theorem dX9_pushes_179 : decode cX9_pushes 179 = .ok (.lstore 13, 2) := by decide +kernel
theorem dX9_pushes_181 : decode cX9_pushes 181 = .ok (.aload_n 0, 1) := by decide +kernel
theorem dX9_pushes_182 : decode cX9_pushes 182 = .ok (.getfield 134, 3) := by decide +kernel
theorem dX9_pushes_185 : decode cX9_pushes 185 = .ok (.lstore 15, 2) := by decide +kernel
theorem dX9_pushes_187 : decode cX9_pushes 187 = .ok (.aload_n 0, 1) := by decide +kernel
theorem dX9_pushes_188 : decode cX9_pushes 188 = .ok (.lload 13, 2) := by decide +kernel
theorem dX9_pushes_190 : decode cX9_pushes 190 = .ok (.lload 15, 2) := by decide +kernel
theorem dX9_pushes_192 : decode cX9_pushes 192 = .ok (.aload_n 0, 1) := by decide +kernel
theorem dX9_pushes_193 : decode cX9_pushes 193 = .ok (.getfield 56, 3) := by decide +kernel
theorem dX9_pushes_196 : decode cX9_pushes 196 = .ok (.iload_n 2, 1) := by decide +kernel
theorem dX9_pushes_197 : decode cX9_pushes 197 = .ok (.iaload, 1) := by decide +kernel
theorem dX9_pushes_198 : decode cX9_pushes 198 = .ok (.i2l, 1) := by decide +kernel
theorem dX9_pushes_199 : decode cX9_pushes 199 = .ok (.lconst 1, 1) := by decide +kernel
theorem dX9_pushes_200 : decode cX9_pushes 200 = .ok (.invokevirtual 208, 3) := by decide +kernel
theorem dX9_pushes_203 : decode cX9_pushes 203 = .ok (.aload_n 0, 1) := by decide +kernel
theorem dX9_pushes_204 : decode cX9_pushes 204 = .ok (.aload_n 0, 1) := by decide +kernel
theorem dX9_pushes_205 : decode cX9_pushes 205 = .ok (.getfield 130, 3) := by decide +kernel
theorem dX9_pushes_208 : decode cX9_pushes 208 = .ok (.aload_n 0, 1) := by decide +kernel
theorem dX9_pushes_209 : decode cX9_pushes 209 = .ok (.getfield 134, 3) := by decide +kernel
theorem dX9_pushes_212 : decode cX9_pushes 212 = .ok (.lload_n 3, 1) := by decide +kernel
theorem dX9_pushes_213 : decode cX9_pushes 213 = .ok (.lconst 1, 1) := by decide +kernel
theorem dX9_pushes_214 : decode cX9_pushes 214 = .ok (.invokevirtual 184, 3) := by decide +kernel
theorem dX9_pushes_217 : decode cX9_pushes 217 = .ok (.aload_n 0, 1) := by decide +kernel
theorem dX9_pushes_218 : decode cX9_pushes 218 = .ok (.lload 9, 2) := by decide +kernel
theorem dX9_pushes_220 : decode cX9_pushes 220 = .ok (.lload 11, 2) := by decide +kernel
theorem dX9_pushes_222 : decode cX9_pushes 222 = .ok (.aload_n 0, 1) := by decide +kernel
theorem dX9_pushes_223 : decode cX9_pushes 223 = .ok (.getfield 130, 3) := by decide +kernel
theorem dX9_pushes_226 : decode cX9_pushes 226 = .ok (.aload_n 0, 1) := by decide +kernel
theorem dX9_pushes_227 : decode cX9_pushes 227 = .ok (.getfield 134, 3) := by decide +kernel
theorem dX9_pushes_230 : decode cX9_pushes 230 = .ok (.invokevirtual 151, 3) := by decide +kernel
theorem dX9_pushes_233 : decode cX9_pushes 233 = .ok (.aload_n 0, 1) := by decide +kernel
theorem dX9_pushes_234 : decode cX9_pushes 234 = .ok (.aload_n 0, 1) := by decide +kernel
theorem dX9_pushes_235 : decode cX9_pushes 235 = .ok (.getfield 130, 3) := by decide +kernel
theorem dX9_pushes_238 : decode cX9_pushes 238 = .ok (.putfield 218, 3) := by decide +kernel
theorem dX9_pushes_241 : decode cX9_pushes 241 = .ok (.aload_n 0, 1) := by decide +kernel
theorem dX9_pushes_242 : decode cX9_pushes 242 = .ok (.aload_n 0, 1) := by decide +kernel
theorem dX9_pushes_243 : decode cX9_pushes 243 = .ok (.getfield 134, 3) := by decide +kernel
theorem dX9_pushes_246 : decode cX9_pushes 246 = .ok (.putfield 221, 3) := by decide +kernel
theorem dX9_pushes_249 : decode cX9_pushes 249 = .ok (.aload_n 0, 1) := by decide +kernel
theorem dX9_pushes_250 : decode cX9_pushes 250 = .ok (.lload 13, 2) := by decide +kernel
theorem dX9_pushes_252 : decode cX9_pushes 252 = .ok (.lload 15, 2) := by decide +kernel
theorem dX9_pushes_254 : decode cX9_pushes 254 = .ok (.aload_n 0, 1) := by decide +kernel
theorem dX9_pushes_255 : decode cX9_pushes 255 = .ok (.getfield 56, 3) := by decide +kernel
theorem dX9_pushes_258 : decode cX9_pushes 258 = .ok (.iload_n 1, 1) := by decide +kernel
theorem dX9_pushes_259 : decode cX9_pushes 259 = .ok (.iaload, 1) := by decide +kernel
theorem dX9_pushes_260 : decode cX9_pushes 260 = .ok (.i2l, 1) := by decide +kernel
theorem dX9_pushes_261 : decode cX9_pushes 261 = .ok (.lconst 1, 1) := by decide +kernel
theorem dX9_pushes_262 : decode cX9_pushes 262 = .ok (.invokevirtual 208, 3) := by decide +kernel
theorem dX9_pushes_265 : decode cX9_pushes 265 = .ok (.aload_n 0, 1) := by decide +kernel
theorem dX9_pushes_266 : decode cX9_pushes 266 = .ok (.aload_n 0, 1) := by decide +kernel
theorem dX9_pushes_267 : decode cX9_pushes 267 = .ok (.getfield 130, 3) := by decide +kernel
theorem dX9_pushes_270 : decode cX9_pushes 270 = .ok (.aload_n 0, 1) := by decide +kernel
theorem dX9_pushes_271 : decode cX9_pushes 271 = .ok (.getfield 134, 3) := by decide +kernel
theorem dX9_pushes_274 : decode cX9_pushes 274 = .ok (.lload_n 3, 1) := by decide +kernel
theorem dX9_pushes_275 : decode cX9_pushes 275 = .ok (.lconst 1, 1) := by decide +kernel
theorem dX9_pushes_276 : decode cX9_pushes 276 = .ok (.invokevirtual 184, 3) := by decide +kernel
theorem dX9_pushes_279 : decode cX9_pushes 279 = .ok (.aload_n 0, 1) := by decide +kernel
theorem dX9_pushes_280 : decode cX9_pushes 280 = .ok (.lload 9, 2) := by decide +kernel
theorem dX9_pushes_282 : decode cX9_pushes 282 = .ok (.lload 11, 2) := by decide +kernel
theorem dX9_pushes_284 : decode cX9_pushes 284 = .ok (.aload_n 0, 1) := by decide +kernel
theorem dX9_pushes_285 : decode cX9_pushes 285 = .ok (.getfield 130, 3) := by decide +kernel
theorem dX9_pushes_288 : decode cX9_pushes 288 = .ok (.aload_n 0, 1) := by decide +kernel
theorem dX9_pushes_289 : decode cX9_pushes 289 = .ok (.getfield 134, 3) := by decide +kernel
theorem dX9_pushes_292 : decode cX9_pushes 292 = .ok (.invokevirtual 199, 3) := by decide +kernel
theorem dX9_pushes_295 : decode cX9_pushes 295 = .ok (.aload_n 0, 1) := by decide +kernel
theorem dX9_pushes_296 : decode cX9_pushes 296 = .ok (.aload_n 0, 1) := by decide +kernel
theorem dX9_pushes_297 : decode cX9_pushes 297 = .ok (.getfield 130, 3) := by decide +kernel
theorem dX9_pushes_300 : decode cX9_pushes 300 = .ok (.putfield 224, 3) := by decide +kernel
theorem dX9_pushes_303 : decode cX9_pushes 303 = .ok (.aload_n 0, 1) := by decide +kernel
theorem dX9_pushes_304 : decode cX9_pushes 304 = .ok (.aload_n 0, 1) := by decide +kernel
theorem dX9_pushes_305 : decode cX9_pushes 305 = .ok (.getfield 134, 3) := by decide +kernel
theorem dX9_pushes_308 : decode cX9_pushes 308 = .ok (.putfield 227, 3) := by decide +kernel
theorem dX9_pushes_311 : decode cX9_pushes 311 = .ok (.return_, 1) := by decide +kernel
theorem dX9_becomes_0 : decode cX9_becomes 0 = .ok (.aload_n 0, 1) := by decide +kernel
theorem dX9_becomes_1 : decode cX9_becomes 1 = .ok (.getfield 65, 3) := by decide +kernel
theorem dX9_becomes_4 : decode cX9_becomes 4 = .ok (.iload_n 1, 1) := by decide +kernel
theorem dX9_becomes_5 : decode cX9_becomes 5 = .ok (.lload_n 2, 1) := by decide +kernel
theorem dX9_becomes_6 : decode cX9_becomes 6 = .ok (.lastore, 1) := by decide +kernel
theorem dX9_becomes_7 : decode cX9_becomes 7 = .ok (.aload_n 0, 1) := by decide +kernel
theorem dX9_becomes_8 : decode cX9_becomes 8 = .ok (.getfield 68, 3) := by decide +kernel
theorem dX9_becomes_11 : decode cX9_becomes 11 = .ok (.iload_n 1, 1) := by decide +kernel
theorem dX9_becomes_12 : decode cX9_becomes 12 = .ok (.lload 4, 2) := by decide +kernel
theorem dX9_becomes_14 : decode cX9_becomes 14 = .ok (.lastore, 1) := by decide +kernel
theorem dX9_becomes_15 : decode cX9_becomes 15 = .ok (.return_, 1) := by decide +kernel
theorem dX9_does_0 : decode cX9_does 0 = .ok (.aload_n 0, 1) := by decide +kernel
theorem dX9_does_1 : decode cX9_does 1 = .ok (.invokevirtual 230, 3) := by decide +kernel
theorem dX9_does_4 : decode cX9_does 4 = .ok (.iload_n 1, 1) := by decide +kernel
theorem dX9_does_5 : decode cX9_does 5 = .ok (.ifCond .ne 15, 3) := by decide +kernel
theorem dX9_does_8 : decode cX9_does 8 = .ok (.aload_n 0, 1) := by decide +kernel
theorem dX9_does_9 : decode cX9_does 9 = .ok (.iconst 0, 1) := by decide +kernel
theorem dX9_does_10 : decode cX9_does 10 = .ok (.aload_n 0, 1) := by decide +kernel
theorem dX9_does_11 : decode cX9_does 11 = .ok (.getfield 162, 3) := by decide +kernel
theorem dX9_does_14 : decode cX9_does 14 = .ok (.invokevirtual 233, 3) := by decide +kernel
theorem dX9_does_17 : decode cX9_does 17 = .ok (.goto 33, 3) := by decide +kernel
theorem dX9_does_20 : decode cX9_does 20 = .ok (.iload_n 1, 1) := by decide +kernel
theorem dX9_does_21 : decode cX9_does 21 = .ok (.bipush 9, 2) := by decide +kernel
theorem dX9_does_23 : decode cX9_does 23 = .ok (.if_icmp .ne 20, 3) := by decide +kernel
theorem dX9_does_26 : decode cX9_does 26 = .ok (.aload_n 0, 1) := by decide +kernel
theorem dX9_does_27 : decode cX9_does 27 = .ok (.aload_n 0, 1) := by decide +kernel
theorem dX9_does_28 : decode cX9_does 28 = .ok (.getfield 181, 3) := by decide +kernel
theorem dX9_does_31 : decode cX9_does 31 = .ok (.iconst 1, 1) := by decide +kernel
theorem dX9_does_32 : decode cX9_does 32 = .ok (.isub, 1) := by decide +kernel
theorem dX9_does_33 : decode cX9_does 33 = .ok (.aload_n 0, 1) := by decide +kernel
theorem dX9_does_34 : decode cX9_does 34 = .ok (.getfield 165, 3) := by decide +kernel
theorem dX9_does_37 : decode cX9_does 37 = .ok (.invokevirtual 233, 3) := by decide +kernel
theorem dX9_does_40 : decode cX9_does 40 = .ok (.goto 10, 3) := by decide +kernel
theorem dX9_does_43 : decode cX9_does 43 = .ok (.aload_n 0, 1) := by decide +kernel
theorem dX9_does_44 : decode cX9_does 44 = .ok (.iload_n 1, 1) := by decide +kernel
theorem dX9_does_45 : decode cX9_does 45 = .ok (.iconst 1, 1) := by decide +kernel
theorem dX9_does_46 : decode cX9_does 46 = .ok (.isub, 1) := by decide +kernel
theorem dX9_does_47 : decode cX9_does 47 = .ok (.invokevirtual 237, 3) := by decide +kernel
theorem dX9_does_50 : decode cX9_does 50 = .ok (.aload_n 0, 1) := by decide +kernel
theorem dX9_does_51 : decode cX9_does 51 = .ok (.getfield 126, 3) := by decide +kernel
theorem dX9_does_54 : decode cX9_does 54 = .ok (.ifCond .eq 4, 3) := by decide +kernel
theorem dX9_does_57 : decode cX9_does 57 = .ok (.return_, 1) := by decide +kernel
theorem dX9_does_58 : decode cX9_does 58 = .ok (.aload_n 0, 1) := by decide +kernel
theorem dX9_does_59 : decode cX9_does 59 = .ok (.aload_n 0, 1) := by decide +kernel
theorem dX9_does_60 : decode cX9_does 60 = .ok (.getfield 202, 3) := by decide +kernel
theorem dX9_does_63 : decode cX9_does 63 = .ok (.putfield 193, 3) := by decide +kernel
theorem dX9_does_66 : decode cX9_does 66 = .ok (.aload_n 0, 1) := by decide +kernel
theorem dX9_does_67 : decode cX9_does 67 = .ok (.aload_n 0, 1) := by decide +kernel
theorem dX9_does_68 : decode cX9_does 68 = .ok (.getfield 205, 3) := by decide +kernel
theorem dX9_does_71 : decode cX9_does 71 = .ok (.putfield 196, 3) := by decide +kernel
theorem dX9_does_74 : decode cX9_does 74 = .ok (.iconst 0, 1) := by decide +kernel
theorem dX9_does_75 : decode cX9_does 75 = .ok (.istore_n 2, 1) := by decide +kernel
theorem dX9_does_76 : decode cX9_does 76 = .ok (.iload_n 2, 1) := by decide +kernel
theorem dX9_does_77 : decode cX9_does 77 = .ok (.aload_n 0, 1) := by decide +kernel
theorem dX9_does_78 : decode cX9_does 78 = .ok (.getfield 181, 3) := by decide +kernel
theorem dX9_does_81 : decode cX9_does 81 = .ok (.if_icmp .ge 33, 3) := by decide +kernel
theorem dX9_does_84 : decode cX9_does 84 = .ok (.aload_n 0, 1) := by decide +kernel
theorem dX9_does_85 : decode cX9_does 85 = .ok (.getfield 59, 3) := by decide +kernel
theorem dX9_does_88 : decode cX9_does 88 = .ok (.iload_n 2, 1) := by decide +kernel
theorem dX9_does_89 : decode cX9_does 89 = .ok (.aload_n 0, 1) := by decide +kernel
theorem dX9_does_90 : decode cX9_does 90 = .ok (.getfield 71, 3) := by decide +kernel
theorem dX9_does_93 : decode cX9_does 93 = .ok (.iload_n 2, 1) := by decide +kernel
theorem dX9_does_94 : decode cX9_does 94 = .ok (.laload, 1) := by decide +kernel
theorem dX9_does_95 : decode cX9_does 95 = .ok (.lastore, 1) := by decide +kernel
theorem dX9_does_96 : decode cX9_does 96 = .ok (.aload_n 0, 1) := by decide +kernel
theorem dX9_does_97 : decode cX9_does 97 = .ok (.getfield 62, 3) := by decide +kernel
theorem dX9_does_100 : decode cX9_does 100 = .ok (.iload_n 2, 1) := by decide +kernel
theorem dX9_does_101 : decode cX9_does 101 = .ok (.aload_n 0, 1) := by decide +kernel
theorem dX9_does_102 : decode cX9_does 102 = .ok (.getfield 74, 3) := by decide +kernel
theorem dX9_does_105 : decode cX9_does 105 = .ok (.iload_n 2, 1) := by decide +kernel
theorem dX9_does_106 : decode cX9_does 106 = .ok (.laload, 1) := by decide +kernel
theorem dX9_does_107 : decode cX9_does 107 = .ok (.lastore, 1) := by decide +kernel
theorem dX9_does_108 : decode cX9_does 108 = .ok (.iinc 2 1, 3) := by decide +kernel
theorem dX9_does_111 : decode cX9_does 111 = .ok (.goto (-35), 3) := by decide +kernel
theorem dX9_does_114 : decode cX9_does 114 = .ok (.aload_n 0, 1) := by decide +kernel
theorem dX9_does_115 : decode cX9_does 115 = .ok (.iload_n 1, 1) := by decide +kernel
theorem dX9_does_116 : decode cX9_does 116 = .ok (.ifCond .ne 7, 3) := by decide +kernel
theorem dX9_does_119 : decode cX9_does 119 = .ok (.iconst 0, 1) := by decide +kernel
theorem dX9_does_120 : decode cX9_does 120 = .ok (.goto 21, 3) := by decide +kernel
theorem dX9_does_123 : decode cX9_does 123 = .ok (.iload_n 1, 1) := by decide +kernel
theorem dX9_does_124 : decode cX9_does 124 = .ok (.bipush 9, 2) := by decide +kernel
theorem dX9_does_126 : decode cX9_does 126 = .ok (.if_icmp .ne 12, 3) := by decide +kernel
theorem dX9_does_129 : decode cX9_does 129 = .ok (.aload_n 0, 1) := by decide +kernel
theorem dX9_does_130 : decode cX9_does 130 = .ok (.getfield 181, 3) := by decide +kernel
theorem dX9_does_133 : decode cX9_does 133 = .ok (.iconst 1, 1) := by decide +kernel
theorem dX9_does_134 : decode cX9_does 134 = .ok (.isub, 1) := by decide +kernel
theorem dX9_does_135 : decode cX9_does 135 = .ok (.goto 6, 3) := by decide +kernel
theorem dX9_does_138 : decode cX9_does 138 = .ok (.iload_n 1, 1) := by decide +kernel
theorem dX9_does_139 : decode cX9_does 139 = .ok (.iconst 1, 1) := by decide +kernel
theorem dX9_does_140 : decode cX9_does 140 = .ok (.isub, 1) := by decide +kernel
theorem dX9_does_141 : decode cX9_does 141 = .ok (.aload_n 0, 1) := by decide +kernel
theorem dX9_does_142 : decode cX9_does 142 = .ok (.getfield 218, 3) := by decide +kernel
theorem dX9_does_145 : decode cX9_does 145 = .ok (.aload_n 0, 1) := by decide +kernel
theorem dX9_does_146 : decode cX9_does 146 = .ok (.getfield 221, 3) := by decide +kernel
theorem dX9_does_149 : decode cX9_does 149 = .ok (.invokevirtual 240, 3) := by decide +kernel
theorem dX9_does_152 : decode cX9_does 152 = .ok (.iload_n 1, 1) := by decide +kernel
theorem dX9_does_153 : decode cX9_does 153 = .ok (.ifCond .eq 22, 3) := by decide +kernel
theorem dX9_does_156 : decode cX9_does 156 = .ok (.iload_n 1, 1) := by decide +kernel
theorem dX9_does_157 : decode cX9_does 157 = .ok (.bipush 9, 2) := by decide +kernel
theorem dX9_does_159 : decode cX9_does 159 = .ok (.if_icmp .eq 16, 3) := by decide +kernel
theorem dX9_does_162 : decode cX9_does 162 = .ok (.aload_n 0, 1) := by decide +kernel
theorem dX9_does_163 : decode cX9_does 163 = .ok (.iload_n 1, 1) := by decide +kernel
theorem dX9_does_164 : decode cX9_does 164 = .ok (.aload_n 0, 1) := by decide +kernel
theorem dX9_does_165 : decode cX9_does 165 = .ok (.getfield 224, 3) := by decide +kernel
theorem dX9_does_168 : decode cX9_does 168 = .ok (.aload_n 0, 1) := by decide +kernel
theorem dX9_does_169 : decode cX9_does 169 = .ok (.getfield 227, 3) := by decide +kernel
theorem dX9_does_172 : decode cX9_does 172 = .ok (.invokevirtual 240, 3) := by decide +kernel
theorem dX9_does_175 : decode cX9_does 175 = .ok (.return_, 1) := by decide +kernel
theorem dX9_keeps_0 : decode cX9_keeps 0 = .ok (.aload_n 0, 1) := by decide +kernel
theorem dX9_keeps_1 : decode cX9_keeps 1 = .ok (.getfield 77, 3) := by decide +kernel
theorem dX9_keeps_4 : decode cX9_keeps 4 = .ok (.aload_n 0, 1) := by decide +kernel
theorem dX9_keeps_5 : decode cX9_keeps 5 = .ok (.getfield 244, 3) := by decide +kernel
theorem dX9_keeps_8 : decode cX9_keeps 8 = .ok (.iload_n 1, 1) := by decide +kernel
theorem dX9_keeps_9 : decode cX9_keeps 9 = .ok (.iastore, 1) := by decide +kernel
theorem dX9_keeps_10 : decode cX9_keeps 10 = .ok (.aload_n 0, 1) := by decide +kernel
theorem dX9_keeps_11 : decode cX9_keeps 11 = .ok (.getfield 80, 3) := by decide +kernel
theorem dX9_keeps_14 : decode cX9_keeps 14 = .ok (.aload_n 0, 1) := by decide +kernel
theorem dX9_keeps_15 : decode cX9_keeps 15 = .ok (.getfield 244, 3) := by decide +kernel
theorem dX9_keeps_18 : decode cX9_keeps 18 = .ok (.aload_n 0, 1) := by decide +kernel
theorem dX9_keeps_19 : decode cX9_keeps 19 = .ok (.getfield 193, 3) := by decide +kernel
theorem dX9_keeps_22 : decode cX9_keeps 22 = .ok (.lastore, 1) := by decide +kernel
theorem dX9_keeps_23 : decode cX9_keeps 23 = .ok (.aload_n 0, 1) := by decide +kernel
theorem dX9_keeps_24 : decode cX9_keeps 24 = .ok (.getfield 83, 3) := by decide +kernel
theorem dX9_keeps_27 : decode cX9_keeps 27 = .ok (.aload_n 0, 1) := by decide +kernel
theorem dX9_keeps_28 : decode cX9_keeps 28 = .ok (.getfield 244, 3) := by decide +kernel
theorem dX9_keeps_31 : decode cX9_keeps 31 = .ok (.aload_n 0, 1) := by decide +kernel
theorem dX9_keeps_32 : decode cX9_keeps 32 = .ok (.getfield 196, 3) := by decide +kernel
theorem dX9_keeps_35 : decode cX9_keeps 35 = .ok (.lastore, 1) := by decide +kernel
theorem dX9_keeps_36 : decode cX9_keeps 36 = .ok (.iconst 0, 1) := by decide +kernel
theorem dX9_keeps_37 : decode cX9_keeps 37 = .ok (.istore_n 2, 1) := by decide +kernel
theorem dX9_keeps_38 : decode cX9_keeps 38 = .ok (.iload_n 2, 1) := by decide +kernel
theorem dX9_keeps_39 : decode cX9_keeps 39 = .ok (.aload_n 0, 1) := by decide +kernel
theorem dX9_keeps_40 : decode cX9_keeps 40 = .ok (.getfield 181, 3) := by decide +kernel
theorem dX9_keeps_43 : decode cX9_keeps 43 = .ok (.if_icmp .ge 95, 3) := by decide +kernel
theorem dX9_keeps_46 : decode cX9_keeps 46 = .ok (.aload_n 0, 1) := by decide +kernel
theorem dX9_keeps_47 : decode cX9_keeps 47 = .ok (.getfield 86, 3) := by decide +kernel
theorem dX9_keeps_50 : decode cX9_keeps 50 = .ok (.bipush 12, 2) := by decide +kernel
theorem dX9_keeps_52 : decode cX9_keeps 52 = .ok (.aload_n 0, 1) := by decide +kernel
theorem dX9_keeps_53 : decode cX9_keeps 53 = .ok (.getfield 244, 3) := by decide +kernel
theorem dX9_keeps_56 : decode cX9_keeps 56 = .ok (.imul, 1) := by decide +kernel
theorem dX9_keeps_57 : decode cX9_keeps 57 = .ok (.iload_n 2, 1) := by decide +kernel
theorem dX9_keeps_58 : decode cX9_keeps 58 = .ok (.iadd, 1) := by decide +kernel
theorem dX9_keeps_59 : decode cX9_keeps 59 = .ok (.aload_n 0, 1) := by decide +kernel
theorem dX9_keeps_60 : decode cX9_keeps 60 = .ok (.getfield 59, 3) := by decide +kernel
theorem dX9_keeps_63 : decode cX9_keeps 63 = .ok (.iload_n 2, 1) := by decide +kernel
theorem dX9_keeps_64 : decode cX9_keeps 64 = .ok (.laload, 1) := by decide +kernel
theorem dX9_keeps_65 : decode cX9_keeps 65 = .ok (.lastore, 1) := by decide +kernel
theorem dX9_keeps_66 : decode cX9_keeps 66 = .ok (.aload_n 0, 1) := by decide +kernel
theorem dX9_keeps_67 : decode cX9_keeps 67 = .ok (.getfield 89, 3) := by decide +kernel
theorem dX9_keeps_70 : decode cX9_keeps 70 = .ok (.bipush 12, 2) := by decide +kernel
theorem dX9_keeps_72 : decode cX9_keeps 72 = .ok (.aload_n 0, 1) := by decide +kernel
theorem dX9_keeps_73 : decode cX9_keeps 73 = .ok (.getfield 244, 3) := by decide +kernel
theorem dX9_keeps_76 : decode cX9_keeps 76 = .ok (.imul, 1) := by decide +kernel
theorem dX9_keeps_77 : decode cX9_keeps 77 = .ok (.iload_n 2, 1) := by decide +kernel
theorem dX9_keeps_78 : decode cX9_keeps 78 = .ok (.iadd, 1) := by decide +kernel
theorem dX9_keeps_79 : decode cX9_keeps 79 = .ok (.aload_n 0, 1) := by decide +kernel
theorem dX9_keeps_80 : decode cX9_keeps 80 = .ok (.getfield 62, 3) := by decide +kernel
theorem dX9_keeps_83 : decode cX9_keeps 83 = .ok (.iload_n 2, 1) := by decide +kernel
theorem dX9_keeps_84 : decode cX9_keeps 84 = .ok (.laload, 1) := by decide +kernel
theorem dX9_keeps_85 : decode cX9_keeps 85 = .ok (.lastore, 1) := by decide +kernel
theorem dX9_keeps_86 : decode cX9_keeps 86 = .ok (.aload_n 0, 1) := by decide +kernel
theorem dX9_keeps_87 : decode cX9_keeps 87 = .ok (.getfield 86, 3) := by decide +kernel
theorem dX9_keeps_90 : decode cX9_keeps 90 = .ok (.bipush 12, 2) := by decide +kernel
theorem dX9_keeps_92 : decode cX9_keeps 92 = .ok (.aload_n 0, 1) := by decide +kernel
theorem dX9_keeps_93 : decode cX9_keeps 93 = .ok (.getfield 244, 3) := by decide +kernel
theorem dX9_keeps_96 : decode cX9_keeps 96 = .ok (.imul, 1) := by decide +kernel
theorem dX9_keeps_97 : decode cX9_keeps 97 = .ok (.bipush 6, 2) := by decide +kernel
theorem dX9_keeps_99 : decode cX9_keeps 99 = .ok (.iadd, 1) := by decide +kernel
theorem dX9_keeps_100 : decode cX9_keeps 100 = .ok (.iload_n 2, 1) := by decide +kernel
theorem dX9_keeps_101 : decode cX9_keeps 101 = .ok (.iadd, 1) := by decide +kernel
theorem dX9_keeps_102 : decode cX9_keeps 102 = .ok (.aload_n 0, 1) := by decide +kernel
theorem dX9_keeps_103 : decode cX9_keeps 103 = .ok (.getfield 65, 3) := by decide +kernel
theorem dX9_keeps_106 : decode cX9_keeps 106 = .ok (.iload_n 2, 1) := by decide +kernel
theorem dX9_keeps_107 : decode cX9_keeps 107 = .ok (.laload, 1) := by decide +kernel
theorem dX9_keeps_108 : decode cX9_keeps 108 = .ok (.lastore, 1) := by decide +kernel
theorem dX9_keeps_109 : decode cX9_keeps 109 = .ok (.aload_n 0, 1) := by decide +kernel
theorem dX9_keeps_110 : decode cX9_keeps 110 = .ok (.getfield 89, 3) := by decide +kernel
theorem dX9_keeps_113 : decode cX9_keeps 113 = .ok (.bipush 12, 2) := by decide +kernel
theorem dX9_keeps_115 : decode cX9_keeps 115 = .ok (.aload_n 0, 1) := by decide +kernel
theorem dX9_keeps_116 : decode cX9_keeps 116 = .ok (.getfield 244, 3) := by decide +kernel
theorem dX9_keeps_119 : decode cX9_keeps 119 = .ok (.imul, 1) := by decide +kernel
theorem dX9_keeps_120 : decode cX9_keeps 120 = .ok (.bipush 6, 2) := by decide +kernel
theorem dX9_keeps_122 : decode cX9_keeps 122 = .ok (.iadd, 1) := by decide +kernel
theorem dX9_keeps_123 : decode cX9_keeps 123 = .ok (.iload_n 2, 1) := by decide +kernel
theorem dX9_keeps_124 : decode cX9_keeps 124 = .ok (.iadd, 1) := by decide +kernel
theorem dX9_keeps_125 : decode cX9_keeps 125 = .ok (.aload_n 0, 1) := by decide +kernel
theorem dX9_keeps_126 : decode cX9_keeps 126 = .ok (.getfield 68, 3) := by decide +kernel
theorem dX9_keeps_129 : decode cX9_keeps 129 = .ok (.iload_n 2, 1) := by decide +kernel
theorem dX9_keeps_130 : decode cX9_keeps 130 = .ok (.laload, 1) := by decide +kernel
theorem dX9_keeps_131 : decode cX9_keeps 131 = .ok (.lastore, 1) := by decide +kernel
theorem dX9_keeps_132 : decode cX9_keeps 132 = .ok (.iinc 2 1, 3) := by decide +kernel
theorem dX9_keeps_135 : decode cX9_keeps 135 = .ok (.goto (-97), 3) := by decide +kernel
theorem dX9_keeps_138 : decode cX9_keeps 138 = .ok (.aload_n 0, 1) := by decide +kernel
theorem dX9_keeps_139 : decode cX9_keeps 139 = .ok (.dup, 1) := by decide +kernel
theorem dX9_keeps_140 : decode cX9_keeps 140 = .ok (.getfield 244, 3) := by decide +kernel
theorem dX9_keeps_143 : decode cX9_keeps 143 = .ok (.iconst 1, 1) := by decide +kernel
theorem dX9_keeps_144 : decode cX9_keeps 144 = .ok (.iadd, 1) := by decide +kernel
theorem dX9_keeps_145 : decode cX9_keeps 145 = .ok (.putfield 244, 3) := by decide +kernel
theorem dX9_keeps_148 : decode cX9_keeps 148 = .ok (.return_, 1) := by decide +kernel
theorem dX9_goesOn_0 : decode cX9_goesOn 0 = .ok (.aload_n 0, 1) := by decide +kernel
theorem dX9_goesOn_1 : decode cX9_goesOn 1 = .ok (.lconst 0, 1) := by decide +kernel
theorem dX9_goesOn_2 : decode cX9_goesOn 2 = .ok (.putfield 193, 3) := by decide +kernel
theorem dX9_goesOn_5 : decode cX9_goesOn 5 = .ok (.aload_n 0, 1) := by decide +kernel
theorem dX9_goesOn_6 : decode cX9_goesOn 6 = .ok (.lconst 1, 1) := by decide +kernel
theorem dX9_goesOn_7 : decode cX9_goesOn 7 = .ok (.putfield 196, 3) := by decide +kernel
theorem dX9_goesOn_10 : decode cX9_goesOn 10 = .ok (.aload_n 0, 1) := by decide +kernel
theorem dX9_goesOn_11 : decode cX9_goesOn 11 = .ok (.iconst 0, 1) := by decide +kernel
theorem dX9_goesOn_12 : decode cX9_goesOn 12 = .ok (.putfield 244, 3) := by decide +kernel
theorem dX9_goesOn_15 : decode cX9_goesOn 15 = .ok (.aload_n 0, 1) := by decide +kernel
theorem dX9_goesOn_16 : decode cX9_goesOn 16 = .ok (.iconst 1, 1) := by decide +kernel
theorem dX9_goesOn_17 : decode cX9_goesOn 17 = .ok (.putfield 247, 3) := by decide +kernel
theorem dX9_goesOn_20 : decode cX9_goesOn 20 = .ok (.aload_n 0, 1) := by decide +kernel
theorem dX9_goesOn_21 : decode cX9_goesOn 21 = .ok (.getfield 244, 3) := by decide +kernel
theorem dX9_goesOn_24 : decode cX9_goesOn 24 = .ok (.iload_n 1, 1) := by decide +kernel
theorem dX9_goesOn_25 : decode cX9_goesOn 25 = .ok (.if_icmp .ge 67, 3) := by decide +kernel
theorem dX9_goesOn_28 : decode cX9_goesOn 28 = .ok (.aload_n 0, 1) := by decide +kernel
theorem dX9_goesOn_29 : decode cX9_goesOn 29 = .ok (.iconst 0, 1) := by decide +kernel
theorem dX9_goesOn_30 : decode cX9_goesOn 30 = .ok (.putfield 126, 3) := by decide +kernel
theorem dX9_goesOn_33 : decode cX9_goesOn 33 = .ok (.aload_n 0, 1) := by decide +kernel
theorem dX9_goesOn_34 : decode cX9_goesOn 34 = .ok (.invokevirtual 250, 3) := by decide +kernel
theorem dX9_goesOn_37 : decode cX9_goesOn 37 = .ok (.istore_n 2, 1) := by decide +kernel
theorem dX9_goesOn_38 : decode cX9_goesOn 38 = .ok (.aload_n 0, 1) := by decide +kernel
theorem dX9_goesOn_39 : decode cX9_goesOn 39 = .ok (.getfield 126, 3) := by decide +kernel
theorem dX9_goesOn_42 : decode cX9_goesOn 42 = .ok (.ifCond .ne 15, 3) := by decide +kernel
theorem dX9_goesOn_45 : decode cX9_goesOn 45 = .ok (.iload_n 2, 1) := by decide +kernel
theorem dX9_goesOn_46 : decode cX9_goesOn 46 = .ok (.ifCond .ge 11, 3) := by decide +kernel
theorem dX9_goesOn_49 : decode cX9_goesOn 49 = .ok (.aload_n 0, 1) := by decide +kernel
theorem dX9_goesOn_50 : decode cX9_goesOn 50 = .ok (.iconst 0, 1) := by decide +kernel
theorem dX9_goesOn_51 : decode cX9_goesOn 51 = .ok (.putfield 247, 3) := by decide +kernel
theorem dX9_goesOn_54 : decode cX9_goesOn 54 = .ok (.goto 38, 3) := by decide +kernel
theorem dX9_goesOn_57 : decode cX9_goesOn 57 = .ok (.aload_n 0, 1) := by decide +kernel
theorem dX9_goesOn_58 : decode cX9_goesOn 58 = .ok (.getfield 126, 3) := by decide +kernel
theorem dX9_goesOn_61 : decode cX9_goesOn 61 = .ok (.ifCond .ne 8, 3) := by decide +kernel
theorem dX9_goesOn_64 : decode cX9_goesOn 64 = .ok (.aload_n 0, 1) := by decide +kernel
theorem dX9_goesOn_65 : decode cX9_goesOn 65 = .ok (.iload_n 2, 1) := by decide +kernel
theorem dX9_goesOn_66 : decode cX9_goesOn 66 = .ok (.invokevirtual 254, 3) := by decide +kernel
theorem dX9_goesOn_69 : decode cX9_goesOn 69 = .ok (.aload_n 0, 1) := by decide +kernel
theorem dX9_goesOn_70 : decode cX9_goesOn 70 = .ok (.getfield 126, 3) := by decide +kernel
theorem dX9_goesOn_73 : decode cX9_goesOn 73 = .ok (.ifCond .eq 11, 3) := by decide +kernel
theorem dX9_goesOn_76 : decode cX9_goesOn 76 = .ok (.aload_n 0, 1) := by decide +kernel
theorem dX9_goesOn_77 : decode cX9_goesOn 77 = .ok (.iconst 2, 1) := by decide +kernel
theorem dX9_goesOn_78 : decode cX9_goesOn 78 = .ok (.putfield 247, 3) := by decide +kernel
theorem dX9_goesOn_81 : decode cX9_goesOn 81 = .ok (.goto 11, 3) := by decide +kernel
theorem dX9_goesOn_84 : decode cX9_goesOn 84 = .ok (.aload_n 0, 1) := by decide +kernel
theorem dX9_goesOn_85 : decode cX9_goesOn 85 = .ok (.iload_n 2, 1) := by decide +kernel
theorem dX9_goesOn_86 : decode cX9_goesOn 86 = .ok (.invokevirtual 257, 3) := by decide +kernel
theorem dX9_goesOn_89 : decode cX9_goesOn 89 = .ok (.goto (-69), 3) := by decide +kernel
theorem dX9_goesOn_92 : decode cX9_goesOn 92 = .ok (.aload_n 0, 1) := by decide +kernel
theorem dX9_goesOn_93 : decode cX9_goesOn 93 = .ok (.iconst 0, 1) := by decide +kernel
theorem dX9_goesOn_94 : decode cX9_goesOn 94 = .ok (.putfield 126, 3) := by decide +kernel
theorem dX9_goesOn_97 : decode cX9_goesOn 97 = .ok (.return_, 1) := by decide +kernel
theorem dX9_findAll_0 : decode cX9_findAll 0 = .ok (.aload_n 0, 1) := by decide +kernel
theorem dX9_findAll_1 : decode cX9_findAll 1 = .ok (.invokevirtual 260, 3) := by decide +kernel
theorem dX9_findAll_4 : decode cX9_findAll 4 = .ok (.aload_n 0, 1) := by decide +kernel
theorem dX9_findAll_5 : decode cX9_findAll 5 = .ok (.bipush 20, 2) := by decide +kernel
theorem dX9_findAll_7 : decode cX9_findAll 7 = .ok (.invokevirtual 263, 3) := by decide +kernel
theorem dX9_findAll_10 : decode cX9_findAll 10 = .ok (.return_, 1) := by decide +kernel
theorem dX9_isBumper_0 : decode cX9_isBumper 0 = .ok (.iload_n 1, 1) := by decide +kernel
theorem dX9_isBumper_1 : decode cX9_isBumper 1 = .ok (.i2l, 1) := by decide +kernel
theorem dX9_isBumper_2 : decode cX9_isBumper 2 = .ok (.lconst 0, 1) := by decide +kernel
theorem dX9_isBumper_3 : decode cX9_isBumper 3 = .ok (.aload_n 0, 1) := by decide +kernel
theorem dX9_isBumper_4 : decode cX9_isBumper 4 = .ok (.getfield 181, 3) := by decide +kernel
theorem dX9_isBumper_7 : decode cX9_isBumper 7 = .ok (.iconst 1, 1) := by decide +kernel
theorem dX9_isBumper_8 : decode cX9_isBumper 8 = .ok (.isub, 1) := by decide +kernel
theorem dX9_isBumper_9 : decode cX9_isBumper 9 = .ok (.i2l, 1) := by decide +kernel
theorem dX9_isBumper_10 : decode cX9_isBumper 10 = .ok (.invokestatic 266, 3) := by decide +kernel
theorem dX9_isBumper_13 : decode cX9_isBumper 13 = .ok (.ireturn, 1) := by decide +kernel
theorem dX9_bumper_0 : decode cX9_bumper 0 = .ok (.iload_n 1, 1) := by decide +kernel
theorem dX9_bumper_1 : decode cX9_bumper 1 = .ok (.i2l, 1) := by decide +kernel
theorem dX9_bumper_2 : decode cX9_bumper 2 = .ok (.lconst 0, 1) := by decide +kernel
theorem dX9_bumper_3 : decode cX9_bumper 3 = .ok (.ldc2_w 270, 3) := by decide +kernel
theorem dX9_bumper_6 : decode cX9_bumper 6 = .ok (.invokestatic 266, 3) := by decide +kernel
theorem dX9_bumper_9 : decode cX9_bumper 9 = .ok (.ifCond .eq 29, 3) := by decide +kernel
theorem dX9_bumper_12 : decode cX9_bumper 12 = .ok (.iload_n 2, 1) := by decide +kernel
theorem dX9_bumper_13 : decode cX9_bumper 13 = .ok (.i2l, 1) := by decide +kernel
theorem dX9_bumper_14 : decode cX9_bumper 14 = .ok (.lconst 1, 1) := by decide +kernel
theorem dX9_bumper_15 : decode cX9_bumper 15 = .ok (.ldc2_w 272, 3) := by decide +kernel
theorem dX9_bumper_18 : decode cX9_bumper 18 = .ok (.invokestatic 266, 3) := by decide +kernel
theorem dX9_bumper_21 : decode cX9_bumper 21 = .ok (.ifCond .eq 17, 3) := by decide +kernel
theorem dX9_bumper_24 : decode cX9_bumper 24 = .ok (.iload_n 3, 1) := by decide +kernel
theorem dX9_bumper_25 : decode cX9_bumper 25 = .ok (.i2l, 1) := by decide +kernel
theorem dX9_bumper_26 : decode cX9_bumper 26 = .ok (.ldc2_w 274, 3) := by decide +kernel
theorem dX9_bumper_29 : decode cX9_bumper 29 = .ok (.ldc2_w 272, 3) := by decide +kernel
theorem dX9_bumper_32 : decode cX9_bumper 32 = .ok (.invokestatic 266, 3) := by decide +kernel
theorem dX9_bumper_35 : decode cX9_bumper 35 = .ok (.ifCond .ne 6, 3) := by decide +kernel
theorem dX9_bumper_38 : decode cX9_bumper 38 = .ok (.bipush (-2), 2) := by decide +kernel
theorem dX9_bumper_40 : decode cX9_bumper 40 = .ok (.ireturn, 1) := by decide +kernel
theorem dX9_bumper_41 : decode cX9_bumper 41 = .ok (.aload_n 0, 1) := by decide +kernel
theorem dX9_bumper_42 : decode cX9_bumper 42 = .ok (.getfield 181, 3) := by decide +kernel
theorem dX9_bumper_45 : decode cX9_bumper 45 = .ok (.ifCond .le 59, 3) := by decide +kernel
theorem dX9_bumper_48 : decode cX9_bumper 48 = .ok (.aload_n 0, 1) := by decide +kernel
theorem dX9_bumper_49 : decode cX9_bumper 49 = .ok (.iconst 0, 1) := by decide +kernel
theorem dX9_bumper_50 : decode cX9_bumper 50 = .ok (.putfield 126, 3) := by decide +kernel
theorem dX9_bumper_53 : decode cX9_bumper 53 = .ok (.aload_n 0, 1) := by decide +kernel
theorem dX9_bumper_54 : decode cX9_bumper 54 = .ok (.aload_n 0, 1) := by decide +kernel
theorem dX9_bumper_55 : decode cX9_bumper 55 = .ok (.getfield 25, 3) := by decide +kernel
theorem dX9_bumper_58 : decode cX9_bumper 58 = .ok (.aload_n 0, 1) := by decide +kernel
theorem dX9_bumper_59 : decode cX9_bumper 59 = .ok (.getfield 181, 3) := by decide +kernel
theorem dX9_bumper_62 : decode cX9_bumper 62 = .ok (.iconst 1, 1) := by decide +kernel
theorem dX9_bumper_63 : decode cX9_bumper 63 = .ok (.isub, 1) := by decide +kernel
theorem dX9_bumper_64 : decode cX9_bumper 64 = .ok (.laload, 1) := by decide +kernel
theorem dX9_bumper_65 : decode cX9_bumper 65 = .ok (.aload_n 0, 1) := by decide +kernel
theorem dX9_bumper_66 : decode cX9_bumper 66 = .ok (.getfield 29, 3) := by decide +kernel
theorem dX9_bumper_69 : decode cX9_bumper 69 = .ok (.aload_n 0, 1) := by decide +kernel
theorem dX9_bumper_70 : decode cX9_bumper 70 = .ok (.getfield 181, 3) := by decide +kernel
theorem dX9_bumper_73 : decode cX9_bumper 73 = .ok (.iconst 1, 1) := by decide +kernel
theorem dX9_bumper_74 : decode cX9_bumper 74 = .ok (.isub, 1) := by decide +kernel
theorem dX9_bumper_75 : decode cX9_bumper 75 = .ok (.laload, 1) := by decide +kernel
theorem dX9_bumper_76 : decode cX9_bumper 76 = .ok (.iload_n 1, 1) := by decide +kernel
theorem dX9_bumper_77 : decode cX9_bumper 77 = .ok (.i2l, 1) := by decide +kernel
theorem dX9_bumper_78 : decode cX9_bumper 78 = .ok (.lconst 1, 1) := by decide +kernel
theorem dX9_bumper_79 : decode cX9_bumper 79 = .ok (.invokevirtual 177, 3) := by decide +kernel
theorem dX9_bumper_82 : decode cX9_bumper 82 = .ok (.istore 4, 2) := by decide +kernel
theorem dX9_bumper_84 : decode cX9_bumper 84 = .ok (.aload_n 0, 1) := by decide +kernel
theorem dX9_bumper_85 : decode cX9_bumper 85 = .ok (.getfield 126, 3) := by decide +kernel
theorem dX9_bumper_88 : decode cX9_bumper 88 = .ok (.ifCond .ne 8, 3) := by decide +kernel
theorem dX9_bumper_91 : decode cX9_bumper 91 = .ok (.iload 4, 2) := by decide +kernel
theorem dX9_bumper_93 : decode cX9_bumper 93 = .ok (.ifCond .ne 11, 3) := by decide +kernel
theorem dX9_bumper_96 : decode cX9_bumper 96 = .ok (.aload_n 0, 1) := by decide +kernel
theorem dX9_bumper_97 : decode cX9_bumper 97 = .ok (.iconst 0, 1) := by decide +kernel
theorem dX9_bumper_98 : decode cX9_bumper 98 = .ok (.putfield 126, 3) := by decide +kernel
theorem dX9_bumper_101 : decode cX9_bumper 101 = .ok (.bipush (-3), 2) := by decide +kernel
theorem dX9_bumper_103 : decode cX9_bumper 103 = .ok (.ireturn, 1) := by decide +kernel
theorem dX9_bumper_104 : decode cX9_bumper 104 = .ok (.aload_n 0, 1) := by decide +kernel
theorem dX9_bumper_105 : decode cX9_bumper 105 = .ok (.getfield 181, 3) := by decide +kernel
theorem dX9_bumper_108 : decode cX9_bumper 108 = .ok (.bipush 6, 2) := by decide +kernel
theorem dX9_bumper_110 : decode cX9_bumper 110 = .ok (.if_icmp .ne 6, 3) := by decide +kernel
theorem dX9_bumper_113 : decode cX9_bumper 113 = .ok (.bipush (-4), 2) := by decide +kernel
theorem dX9_bumper_115 : decode cX9_bumper 115 = .ok (.ireturn, 1) := by decide +kernel
theorem dX9_bumper_116 : decode cX9_bumper 116 = .ok (.aload_n 0, 1) := by decide +kernel
theorem dX9_bumper_117 : decode cX9_bumper 117 = .ok (.getfield 21, 3) := by decide +kernel
theorem dX9_bumper_120 : decode cX9_bumper 120 = .ok (.aload_n 0, 1) := by decide +kernel
theorem dX9_bumper_121 : decode cX9_bumper 121 = .ok (.getfield 181, 3) := by decide +kernel
theorem dX9_bumper_124 : decode cX9_bumper 124 = .ok (.iload_n 2, 1) := by decide +kernel
theorem dX9_bumper_125 : decode cX9_bumper 125 = .ok (.iastore, 1) := by decide +kernel
theorem dX9_bumper_126 : decode cX9_bumper 126 = .ok (.aload_n 0, 1) := by decide +kernel
theorem dX9_bumper_127 : decode cX9_bumper 127 = .ok (.getfield 25, 3) := by decide +kernel
theorem dX9_bumper_130 : decode cX9_bumper 130 = .ok (.aload_n 0, 1) := by decide +kernel
theorem dX9_bumper_131 : decode cX9_bumper 131 = .ok (.getfield 181, 3) := by decide +kernel
theorem dX9_bumper_134 : decode cX9_bumper 134 = .ok (.iload_n 1, 1) := by decide +kernel
theorem dX9_bumper_135 : decode cX9_bumper 135 = .ok (.i2l, 1) := by decide +kernel
theorem dX9_bumper_136 : decode cX9_bumper 136 = .ok (.lastore, 1) := by decide +kernel
theorem dX9_bumper_137 : decode cX9_bumper 137 = .ok (.aload_n 0, 1) := by decide +kernel
theorem dX9_bumper_138 : decode cX9_bumper 138 = .ok (.getfield 29, 3) := by decide +kernel
theorem dX9_bumper_141 : decode cX9_bumper 141 = .ok (.aload_n 0, 1) := by decide +kernel
theorem dX9_bumper_142 : decode cX9_bumper 142 = .ok (.getfield 181, 3) := by decide +kernel
theorem dX9_bumper_145 : decode cX9_bumper 145 = .ok (.lconst 1, 1) := by decide +kernel
theorem dX9_bumper_146 : decode cX9_bumper 146 = .ok (.lastore, 1) := by decide +kernel
theorem dX9_bumper_147 : decode cX9_bumper 147 = .ok (.aload_n 0, 1) := by decide +kernel
theorem dX9_bumper_148 : decode cX9_bumper 148 = .ok (.getfield 32, 3) := by decide +kernel
theorem dX9_bumper_151 : decode cX9_bumper 151 = .ok (.aload_n 0, 1) := by decide +kernel
theorem dX9_bumper_152 : decode cX9_bumper 152 = .ok (.getfield 181, 3) := by decide +kernel
theorem dX9_bumper_155 : decode cX9_bumper 155 = .ok (.iload_n 3, 1) := by decide +kernel
theorem dX9_bumper_156 : decode cX9_bumper 156 = .ok (.i2l, 1) := by decide +kernel
theorem dX9_bumper_157 : decode cX9_bumper 157 = .ok (.lastore, 1) := by decide +kernel
theorem dX9_bumper_158 : decode cX9_bumper 158 = .ok (.aload_n 0, 1) := by decide +kernel
theorem dX9_bumper_159 : decode cX9_bumper 159 = .ok (.getfield 35, 3) := by decide +kernel
theorem dX9_bumper_162 : decode cX9_bumper 162 = .ok (.aload_n 0, 1) := by decide +kernel
theorem dX9_bumper_163 : decode cX9_bumper 163 = .ok (.getfield 181, 3) := by decide +kernel
theorem dX9_bumper_166 : decode cX9_bumper 166 = .ok (.lconst 1, 1) := by decide +kernel
theorem dX9_bumper_167 : decode cX9_bumper 167 = .ok (.lastore, 1) := by decide +kernel
theorem dX9_bumper_168 : decode cX9_bumper 168 = .ok (.aload_n 0, 1) := by decide +kernel
theorem dX9_bumper_169 : decode cX9_bumper 169 = .ok (.dup, 1) := by decide +kernel
theorem dX9_bumper_170 : decode cX9_bumper 170 = .ok (.getfield 181, 3) := by decide +kernel
theorem dX9_bumper_173 : decode cX9_bumper 173 = .ok (.iconst 1, 1) := by decide +kernel
theorem dX9_bumper_174 : decode cX9_bumper 174 = .ok (.iadd, 1) := by decide +kernel
theorem dX9_bumper_175 : decode cX9_bumper 175 = .ok (.putfield 181, 3) := by decide +kernel
theorem dX9_bumper_178 : decode cX9_bumper 178 = .ok (.aload_n 0, 1) := by decide +kernel
theorem dX9_bumper_179 : decode cX9_bumper 179 = .ok (.getfield 181, 3) := by decide +kernel
theorem dX9_bumper_182 : decode cX9_bumper 182 = .ok (.iconst 1, 1) := by decide +kernel
theorem dX9_bumper_183 : decode cX9_bumper 183 = .ok (.isub, 1) := by decide +kernel
theorem dX9_bumper_184 : decode cX9_bumper 184 = .ok (.ireturn, 1) := by decide +kernel
theorem dX9_renew_0 : decode cX9_renew 0 = .ok (.aload_n 0, 1) := by decide +kernel
theorem dX9_renew_1 : decode cX9_renew 1 = .ok (.iload_n 1, 1) := by decide +kernel
theorem dX9_renew_2 : decode cX9_renew 2 = .ok (.invokevirtual 276, 3) := by decide +kernel
theorem dX9_renew_5 : decode cX9_renew 5 = .ok (.ifCond .eq 13, 3) := by decide +kernel
theorem dX9_renew_8 : decode cX9_renew 8 = .ok (.iload_n 2, 1) := by decide +kernel
theorem dX9_renew_9 : decode cX9_renew 9 = .ok (.i2l, 1) := by decide +kernel
theorem dX9_renew_10 : decode cX9_renew 10 = .ok (.lconst 0, 1) := by decide +kernel
theorem dX9_renew_11 : decode cX9_renew 11 = .ok (.lconst 1, 1) := by decide +kernel
theorem dX9_renew_12 : decode cX9_renew 12 = .ok (.invokestatic 266, 3) := by decide +kernel
theorem dX9_renew_15 : decode cX9_renew 15 = .ok (.ifCond .ne 5, 3) := by decide +kernel
theorem dX9_renew_18 : decode cX9_renew 18 = .ok (.iconst (-1), 1) := by decide +kernel
theorem dX9_renew_19 : decode cX9_renew 19 = .ok (.ireturn, 1) := by decide +kernel
theorem dX9_renew_20 : decode cX9_renew 20 = .ok (.iload_n 2, 1) := by decide +kernel
theorem dX9_renew_21 : decode cX9_renew 21 = .ok (.ifCond .ne 18, 3) := by decide +kernel
theorem dX9_renew_24 : decode cX9_renew 24 = .ok (.iload_n 3, 1) := by decide +kernel
theorem dX9_renew_25 : decode cX9_renew 25 = .ok (.i2l, 1) := by decide +kernel
theorem dX9_renew_26 : decode cX9_renew 26 = .ok (.lconst 1, 1) := by decide +kernel
theorem dX9_renew_27 : decode cX9_renew 27 = .ok (.ldc2_w 272, 3) := by decide +kernel
theorem dX9_renew_30 : decode cX9_renew 30 = .ok (.invokestatic 266, 3) := by decide +kernel
theorem dX9_renew_33 : decode cX9_renew 33 = .ok (.ifCond .ne 23, 3) := by decide +kernel
theorem dX9_renew_36 : decode cX9_renew 36 = .ok (.goto 17, 3) := by decide +kernel
theorem dX9_renew_39 : decode cX9_renew 39 = .ok (.iload_n 3, 1) := by decide +kernel
theorem dX9_renew_40 : decode cX9_renew 40 = .ok (.i2l, 1) := by decide +kernel
theorem dX9_renew_41 : decode cX9_renew 41 = .ok (.ldc2_w 274, 3) := by decide +kernel
theorem dX9_renew_44 : decode cX9_renew 44 = .ok (.ldc2_w 272, 3) := by decide +kernel
theorem dX9_renew_47 : decode cX9_renew 47 = .ok (.invokestatic 266, 3) := by decide +kernel
theorem dX9_renew_50 : decode cX9_renew 50 = .ok (.ifCond .ne 6, 3) := by decide +kernel
theorem dX9_renew_53 : decode cX9_renew 53 = .ok (.bipush (-2), 2) := by decide +kernel
theorem dX9_renew_55 : decode cX9_renew 55 = .ok (.ireturn, 1) := by decide +kernel
theorem dX9_renew_56 : decode cX9_renew 56 = .ok (.iload_n 2, 1) := by decide +kernel
theorem dX9_renew_57 : decode cX9_renew 57 = .ok (.ifCond .ne 13, 3) := by decide +kernel
theorem dX9_renew_60 : decode cX9_renew 60 = .ok (.aload_n 0, 1) := by decide +kernel
theorem dX9_renew_61 : decode cX9_renew 61 = .ok (.getfield 21, 3) := by decide +kernel
theorem dX9_renew_64 : decode cX9_renew 64 = .ok (.iload_n 1, 1) := by decide +kernel
theorem dX9_renew_65 : decode cX9_renew 65 = .ok (.iload_n 3, 1) := by decide +kernel
theorem dX9_renew_66 : decode cX9_renew 66 = .ok (.iastore, 1) := by decide +kernel
theorem dX9_renew_67 : decode cX9_renew 67 = .ok (.goto 18, 3) := by decide +kernel
theorem dX9_renew_70 : decode cX9_renew 70 = .ok (.aload_n 0, 1) := by decide +kernel
theorem dX9_renew_71 : decode cX9_renew 71 = .ok (.getfield 32, 3) := by decide +kernel
theorem dX9_renew_74 : decode cX9_renew 74 = .ok (.iload_n 1, 1) := by decide +kernel
theorem dX9_renew_75 : decode cX9_renew 75 = .ok (.iload_n 3, 1) := by decide +kernel
theorem dX9_renew_76 : decode cX9_renew 76 = .ok (.i2l, 1) := by decide +kernel
theorem dX9_renew_77 : decode cX9_renew 77 = .ok (.lastore, 1) := by decide +kernel
theorem dX9_renew_78 : decode cX9_renew 78 = .ok (.aload_n 0, 1) := by decide +kernel
theorem dX9_renew_79 : decode cX9_renew 79 = .ok (.getfield 35, 3) := by decide +kernel
theorem dX9_renew_82 : decode cX9_renew 82 = .ok (.iload_n 1, 1) := by decide +kernel
theorem dX9_renew_83 : decode cX9_renew 83 = .ok (.lconst 1, 1) := by decide +kernel
theorem dX9_renew_84 : decode cX9_renew 84 = .ok (.lastore, 1) := by decide +kernel
theorem dX9_renew_85 : decode cX9_renew 85 = .ok (.aload_n 0, 1) := by decide +kernel
theorem dX9_renew_86 : decode cX9_renew 86 = .ok (.getfield 181, 3) := by decide +kernel
theorem dX9_renew_89 : decode cX9_renew 89 = .ok (.ireturn, 1) := by decide +kernel
theorem dX9_spring_0 : decode cX9_spring 0 = .ok (.iload_n 1, 1) := by decide +kernel
theorem dX9_spring_1 : decode cX9_spring 1 = .ok (.i2l, 1) := by decide +kernel
theorem dX9_spring_2 : decode cX9_spring 2 = .ok (.lconst 0, 1) := by decide +kernel
theorem dX9_spring_3 : decode cX9_spring 3 = .ok (.ldc2_w 157, 3) := by decide +kernel
theorem dX9_spring_6 : decode cX9_spring 6 = .ok (.invokestatic 266, 3) := by decide +kernel
theorem dX9_spring_9 : decode cX9_spring 9 = .ok (.ifCond .ne 6, 3) := by decide +kernel
theorem dX9_spring_12 : decode cX9_spring 12 = .ok (.bipush (-2), 2) := by decide +kernel
theorem dX9_spring_14 : decode cX9_spring 14 = .ok (.ireturn, 1) := by decide +kernel
theorem dX9_spring_15 : decode cX9_spring 15 = .ok (.aload_n 0, 1) := by decide +kernel
theorem dX9_spring_16 : decode cX9_spring 16 = .ok (.getfield 9, 3) := by decide +kernel
theorem dX9_spring_19 : decode cX9_spring 19 = .ok (.istore_n 2, 1) := by decide +kernel
theorem dX9_spring_20 : decode cX9_spring 20 = .ok (.aload_n 0, 1) := by decide +kernel
theorem dX9_spring_21 : decode cX9_spring 21 = .ok (.iload_n 1, 1) := by decide +kernel
theorem dX9_spring_22 : decode cX9_spring 22 = .ok (.putfield 9, 3) := by decide +kernel
theorem dX9_spring_25 : decode cX9_spring 25 = .ok (.iload_n 2, 1) := by decide +kernel
theorem dX9_spring_26 : decode cX9_spring 26 = .ok (.ireturn, 1) := by decide +kernel
theorem dX9_isBeyond_0 : decode cX9_isBeyond 0 = .ok (.iconst 0, 1) := by decide +kernel
theorem dX9_isBeyond_1 : decode cX9_isBeyond 1 = .ok (.istore_n 2, 1) := by decide +kernel
theorem dX9_isBeyond_2 : decode cX9_isBeyond 2 = .ok (.iconst 0, 1) := by decide +kernel
theorem dX9_isBeyond_3 : decode cX9_isBeyond 3 = .ok (.istore_n 3, 1) := by decide +kernel
theorem dX9_isBeyond_4 : decode cX9_isBeyond 4 = .ok (.iload_n 3, 1) := by decide +kernel
theorem dX9_isBeyond_5 : decode cX9_isBeyond 5 = .ok (.aload_n 0, 1) := by decide +kernel
theorem dX9_isBeyond_6 : decode cX9_isBeyond 6 = .ok (.getfield 181, 3) := by decide +kernel
theorem dX9_isBeyond_9 : decode cX9_isBeyond 9 = .ok (.if_icmp .ge 84, 3) := by decide +kernel
theorem dX9_isBeyond_12 : decode cX9_isBeyond 12 = .ok (.aload_n 0, 1) := by decide +kernel
theorem dX9_isBeyond_13 : decode cX9_isBeyond 13 = .ok (.iconst 0, 1) := by decide +kernel
theorem dX9_isBeyond_14 : decode cX9_isBeyond 14 = .ok (.putfield 126, 3) := by decide +kernel
theorem dX9_isBeyond_17 : decode cX9_isBeyond 17 = .ok (.iload_n 1, 1) := by decide +kernel
theorem dX9_isBeyond_18 : decode cX9_isBeyond 18 = .ok (.ifCond .ne 25, 3) := by decide +kernel
theorem dX9_isBeyond_21 : decode cX9_isBeyond 21 = .ok (.iload_n 2, 1) := by decide +kernel
theorem dX9_isBeyond_22 : decode cX9_isBeyond 22 = .ok (.aload_n 0, 1) := by decide +kernel
theorem dX9_isBeyond_23 : decode cX9_isBeyond 23 = .ok (.getfield 25, 3) := by decide +kernel
theorem dX9_isBeyond_26 : decode cX9_isBeyond 26 = .ok (.iload_n 3, 1) := by decide +kernel
theorem dX9_isBeyond_27 : decode cX9_isBeyond 27 = .ok (.laload, 1) := by decide +kernel
theorem dX9_isBeyond_28 : decode cX9_isBeyond 28 = .ok (.lconst 0, 1) := by decide +kernel
theorem dX9_isBeyond_29 : decode cX9_isBeyond 29 = .ok (.lcmp, 1) := by decide +kernel
theorem dX9_isBeyond_30 : decode cX9_isBeyond 30 = .ok (.ifCond .ge 7, 3) := by decide +kernel
theorem dX9_isBeyond_33 : decode cX9_isBeyond 33 = .ok (.iconst 1, 1) := by decide +kernel
theorem dX9_isBeyond_34 : decode cX9_isBeyond 34 = .ok (.goto 4, 3) := by decide +kernel
theorem dX9_isBeyond_37 : decode cX9_isBeyond 37 = .ok (.iconst 0, 1) := by decide +kernel
theorem dX9_isBeyond_38 : decode cX9_isBeyond 38 = .ok (.ior, 1) := by decide +kernel
theorem dX9_isBeyond_39 : decode cX9_isBeyond 39 = .ok (.istore_n 2, 1) := by decide +kernel
theorem dX9_isBeyond_40 : decode cX9_isBeyond 40 = .ok (.goto 47, 3) := by decide +kernel
theorem dX9_isBeyond_43 : decode cX9_isBeyond 43 = .ok (.aload_n 0, 1) := by decide +kernel
theorem dX9_isBeyond_44 : decode cX9_isBeyond 44 = .ok (.aload_n 0, 1) := by decide +kernel
theorem dX9_isBeyond_45 : decode cX9_isBeyond 45 = .ok (.getfield 25, 3) := by decide +kernel
theorem dX9_isBeyond_48 : decode cX9_isBeyond 48 = .ok (.iload_n 3, 1) := by decide +kernel
theorem dX9_isBeyond_49 : decode cX9_isBeyond 49 = .ok (.laload, 1) := by decide +kernel
theorem dX9_isBeyond_50 : decode cX9_isBeyond 50 = .ok (.aload_n 0, 1) := by decide +kernel
theorem dX9_isBeyond_51 : decode cX9_isBeyond 51 = .ok (.getfield 29, 3) := by decide +kernel
theorem dX9_isBeyond_54 : decode cX9_isBeyond 54 = .ok (.iload_n 3, 1) := by decide +kernel
theorem dX9_isBeyond_55 : decode cX9_isBeyond 55 = .ok (.laload, 1) := by decide +kernel
theorem dX9_isBeyond_56 : decode cX9_isBeyond 56 = .ok (.ldc2_w 191, 3) := by decide +kernel
theorem dX9_isBeyond_59 : decode cX9_isBeyond 59 = .ok (.lconst 1, 1) := by decide +kernel
theorem dX9_isBeyond_60 : decode cX9_isBeyond 60 = .ok (.invokevirtual 151, 3) := by decide +kernel
theorem dX9_isBeyond_63 : decode cX9_isBeyond 63 = .ok (.iload_n 2, 1) := by decide +kernel
theorem dX9_isBeyond_64 : decode cX9_isBeyond 64 = .ok (.aload_n 0, 1) := by decide +kernel
theorem dX9_isBeyond_65 : decode cX9_isBeyond 65 = .ok (.getfield 126, 3) := by decide +kernel
theorem dX9_isBeyond_68 : decode cX9_isBeyond 68 = .ok (.ifCond .ne 12, 3) := by decide +kernel
theorem dX9_isBeyond_71 : decode cX9_isBeyond 71 = .ok (.aload_n 0, 1) := by decide +kernel
theorem dX9_isBeyond_72 : decode cX9_isBeyond 72 = .ok (.getfield 130, 3) := by decide +kernel
theorem dX9_isBeyond_75 : decode cX9_isBeyond 75 = .ok (.lconst 0, 1) := by decide +kernel
theorem dX9_isBeyond_76 : decode cX9_isBeyond 76 = .ok (.lcmp, 1) := by decide +kernel
theorem dX9_isBeyond_77 : decode cX9_isBeyond 77 = .ok (.ifCond .le 7, 3) := by decide +kernel
theorem dX9_isBeyond_80 : decode cX9_isBeyond 80 = .ok (.iconst 1, 1) := by decide +kernel
theorem dX9_isBeyond_81 : decode cX9_isBeyond 81 = .ok (.goto 4, 3) := by decide +kernel
theorem dX9_isBeyond_84 : decode cX9_isBeyond 84 = .ok (.iconst 0, 1) := by decide +kernel
theorem dX9_isBeyond_85 : decode cX9_isBeyond 85 = .ok (.ior, 1) := by decide +kernel
theorem dX9_isBeyond_86 : decode cX9_isBeyond 86 = .ok (.istore_n 2, 1) := by decide +kernel
theorem dX9_isBeyond_87 : decode cX9_isBeyond 87 = .ok (.iinc 3 1, 3) := by decide +kernel
theorem dX9_isBeyond_90 : decode cX9_isBeyond 90 = .ok (.goto (-86), 3) := by decide +kernel
theorem dX9_isBeyond_93 : decode cX9_isBeyond 93 = .ok (.aload_n 0, 1) := by decide +kernel
theorem dX9_isBeyond_94 : decode cX9_isBeyond 94 = .ok (.iconst 0, 1) := by decide +kernel
theorem dX9_isBeyond_95 : decode cX9_isBeyond 95 = .ok (.putfield 126, 3) := by decide +kernel
theorem dX9_isBeyond_98 : decode cX9_isBeyond 98 = .ok (.iload_n 2, 1) := by decide +kernel
theorem dX9_isBeyond_99 : decode cX9_isBeyond 99 = .ok (.ireturn, 1) := by decide +kernel
theorem dX9_wallTold_0 : decode cX9_wallTold 0 = .ok (.iload_n 0, 1) := by decide +kernel
theorem dX9_wallTold_1 : decode cX9_wallTold 1 = .ok (.ifCond .ge 8, 3) := by decide +kernel
theorem dX9_wallTold_4 : decode cX9_wallTold 4 = .ok (.bipush (-5), 2) := by decide +kernel
theorem dX9_wallTold_6 : decode cX9_wallTold 6 = .ok (.goto 4, 3) := by decide +kernel
theorem dX9_wallTold_9 : decode cX9_wallTold 9 = .ok (.iload_n 0, 1) := by decide +kernel
theorem dX9_wallTold_10 : decode cX9_wallTold 10 = .ok (.ireturn, 1) := by decide +kernel
theorem dX9_wall_0 : decode cX9_wall 0 = .ok (.iload_n 1, 1) := by decide +kernel
theorem dX9_wall_1 : decode cX9_wall 1 = .ok (.i2l, 1) := by decide +kernel
theorem dX9_wall_2 : decode cX9_wall 2 = .ok (.lconst 0, 1) := by decide +kernel
theorem dX9_wall_3 : decode cX9_wall 3 = .ok (.lconst 1, 1) := by decide +kernel
theorem dX9_wall_4 : decode cX9_wall 4 = .ok (.invokestatic 266, 3) := by decide +kernel
theorem dX9_wall_7 : decode cX9_wall 7 = .ok (.ifCond .ne 5, 3) := by decide +kernel
theorem dX9_wall_10 : decode cX9_wall 10 = .ok (.iconst (-1), 1) := by decide +kernel
theorem dX9_wall_11 : decode cX9_wall 11 = .ok (.ireturn, 1) := by decide +kernel
theorem dX9_wall_12 : decode cX9_wall 12 = .ok (.iload_n 2, 1) := by decide +kernel
theorem dX9_wall_13 : decode cX9_wall 13 = .ok (.i2l, 1) := by decide +kernel
theorem dX9_wall_14 : decode cX9_wall 14 = .ok (.ldc2_w 122, 3) := by decide +kernel
theorem dX9_wall_17 : decode cX9_wall 17 = .ok (.ldc2_w 157, 3) := by decide +kernel
theorem dX9_wall_20 : decode cX9_wall 20 = .ok (.invokestatic 266, 3) := by decide +kernel
theorem dX9_wall_23 : decode cX9_wall 23 = .ok (.ifCond .ne 6, 3) := by decide +kernel
theorem dX9_wall_26 : decode cX9_wall 26 = .ok (.bipush (-2), 2) := by decide +kernel
theorem dX9_wall_28 : decode cX9_wall 28 = .ok (.ireturn, 1) := by decide +kernel
theorem dX9_wall_29 : decode cX9_wall 29 = .ok (.iload_n 2, 1) := by decide +kernel
theorem dX9_wall_30 : decode cX9_wall 30 = .ok (.ifCond .lt 14, 3) := by decide +kernel
theorem dX9_wall_33 : decode cX9_wall 33 = .ok (.aload_n 0, 1) := by decide +kernel
theorem dX9_wall_34 : decode cX9_wall 34 = .ok (.iload_n 1, 1) := by decide +kernel
theorem dX9_wall_35 : decode cX9_wall 35 = .ok (.invokevirtual 280, 3) := by decide +kernel
theorem dX9_wall_38 : decode cX9_wall 38 = .ok (.ifCond .eq 6, 3) := by decide +kernel
theorem dX9_wall_41 : decode cX9_wall 41 = .ok (.bipush (-3), 2) := by decide +kernel
theorem dX9_wall_43 : decode cX9_wall 43 = .ok (.ireturn, 1) := by decide +kernel
theorem dX9_wall_44 : decode cX9_wall 44 = .ok (.iload_n 1, 1) := by decide +kernel
theorem dX9_wall_45 : decode cX9_wall 45 = .ok (.ifCond .ne 10, 3) := by decide +kernel
theorem dX9_wall_48 : decode cX9_wall 48 = .ok (.aload_n 0, 1) := by decide +kernel
theorem dX9_wall_49 : decode cX9_wall 49 = .ok (.getfield 15, 3) := by decide +kernel
theorem dX9_wall_52 : decode cX9_wall 52 = .ok (.goto 7, 3) := by decide +kernel
theorem dX9_wall_55 : decode cX9_wall 55 = .ok (.aload_n 0, 1) := by decide +kernel
theorem dX9_wall_56 : decode cX9_wall 56 = .ok (.getfield 18, 3) := by decide +kernel
theorem dX9_wall_59 : decode cX9_wall 59 = .ok (.istore_n 3, 1) := by decide +kernel
theorem dX9_wall_60 : decode cX9_wall 60 = .ok (.iload_n 1, 1) := by decide +kernel
theorem dX9_wall_61 : decode cX9_wall 61 = .ok (.ifCond .ne 11, 3) := by decide +kernel
theorem dX9_wall_64 : decode cX9_wall 64 = .ok (.aload_n 0, 1) := by decide +kernel
theorem dX9_wall_65 : decode cX9_wall 65 = .ok (.iload_n 2, 1) := by decide +kernel
theorem dX9_wall_66 : decode cX9_wall 66 = .ok (.putfield 15, 3) := by decide +kernel
theorem dX9_wall_69 : decode cX9_wall 69 = .ok (.goto 8, 3) := by decide +kernel
theorem dX9_wall_72 : decode cX9_wall 72 = .ok (.aload_n 0, 1) := by decide +kernel
theorem dX9_wall_73 : decode cX9_wall 73 = .ok (.iload_n 2, 1) := by decide +kernel
theorem dX9_wall_74 : decode cX9_wall 74 = .ok (.putfield 18, 3) := by decide +kernel
theorem dX9_wall_77 : decode cX9_wall 77 = .ok (.iload_n 3, 1) := by decide +kernel
theorem dX9_wall_78 : decode cX9_wall 78 = .ok (.invokestatic 283, 3) := by decide +kernel
theorem dX9_wall_81 : decode cX9_wall 81 = .ok (.ireturn, 1) := by decide +kernel
theorem dX9_go_0 : decode cX9_go 0 = .ok (.iload_n 1, 1) := by decide +kernel
theorem dX9_go_1 : decode cX9_go 1 = .ok (.i2l, 1) := by decide +kernel
theorem dX9_go_2 : decode cX9_go 2 = .ok (.lconst 0, 1) := by decide +kernel
theorem dX9_go_3 : decode cX9_go 3 = .ok (.ldc2_w 287, 3) := by decide +kernel
theorem dX9_go_6 : decode cX9_go 6 = .ok (.invokestatic 266, 3) := by decide +kernel
theorem dX9_go_9 : decode cX9_go 9 = .ok (.ifCond .ne 6, 3) := by decide +kernel
theorem dX9_go_12 : decode cX9_go 12 = .ok (.bipush (-2), 2) := by decide +kernel
theorem dX9_go_14 : decode cX9_go 14 = .ok (.ireturn, 1) := by decide +kernel
theorem dX9_go_15 : decode cX9_go 15 = .ok (.aload_n 0, 1) := by decide +kernel
theorem dX9_go_16 : decode cX9_go 16 = .ok (.invokevirtual 289, 3) := by decide +kernel
theorem dX9_go_19 : decode cX9_go 19 = .ok (.iload_n 1, 1) := by decide +kernel
theorem dX9_go_20 : decode cX9_go 20 = .ok (.aload_n 0, 1) := by decide +kernel
theorem dX9_go_21 : decode cX9_go 21 = .ok (.getfield 244, 3) := by decide +kernel
theorem dX9_go_24 : decode cX9_go 24 = .ok (.if_icmp .ge 7, 3) := by decide +kernel
theorem dX9_go_27 : decode cX9_go 27 = .ok (.iload_n 1, 1) := by decide +kernel
theorem dX9_go_28 : decode cX9_go 28 = .ok (.goto 7, 3) := by decide +kernel
theorem dX9_go_31 : decode cX9_go 31 = .ok (.aload_n 0, 1) := by decide +kernel
theorem dX9_go_32 : decode cX9_go 32 = .ok (.getfield 244, 3) := by decide +kernel
theorem dX9_go_35 : decode cX9_go 35 = .ok (.istore_n 2, 1) := by decide +kernel
theorem dX9_go_36 : decode cX9_go 36 = .ok (.iconst 0, 1) := by decide +kernel
theorem dX9_go_37 : decode cX9_go 37 = .ok (.istore_n 3, 1) := by decide +kernel
theorem dX9_go_38 : decode cX9_go 38 = .ok (.iload_n 3, 1) := by decide +kernel
theorem dX9_go_39 : decode cX9_go 39 = .ok (.aload_n 0, 1) := by decide +kernel
theorem dX9_go_40 : decode cX9_go 40 = .ok (.getfield 181, 3) := by decide +kernel
theorem dX9_go_43 : decode cX9_go 43 = .ok (.if_icmp .ge 87, 3) := by decide +kernel
theorem dX9_go_46 : decode cX9_go 46 = .ok (.iload_n 2, 1) := by decide +kernel
theorem dX9_go_47 : decode cX9_go 47 = .ok (.ifCond .le 83, 3) := by decide +kernel
theorem dX9_go_50 : decode cX9_go 50 = .ok (.bipush 12, 2) := by decide +kernel
theorem dX9_go_52 : decode cX9_go 52 = .ok (.iload_n 2, 1) := by decide +kernel
theorem dX9_go_53 : decode cX9_go 53 = .ok (.iconst 1, 1) := by decide +kernel
theorem dX9_go_54 : decode cX9_go 54 = .ok (.isub, 1) := by decide +kernel
theorem dX9_go_55 : decode cX9_go 55 = .ok (.imul, 1) := by decide +kernel
theorem dX9_go_56 : decode cX9_go 56 = .ok (.istore 4, 2) := by decide +kernel
theorem dX9_go_58 : decode cX9_go 58 = .ok (.aload_n 0, 1) := by decide +kernel
theorem dX9_go_59 : decode cX9_go 59 = .ok (.getfield 25, 3) := by decide +kernel
theorem dX9_go_62 : decode cX9_go 62 = .ok (.iload_n 3, 1) := by decide +kernel
theorem dX9_go_63 : decode cX9_go 63 = .ok (.aload_n 0, 1) := by decide +kernel
theorem dX9_go_64 : decode cX9_go 64 = .ok (.getfield 86, 3) := by decide +kernel
theorem dX9_go_67 : decode cX9_go 67 = .ok (.iload 4, 2) := by decide +kernel
theorem dX9_go_69 : decode cX9_go 69 = .ok (.iload_n 3, 1) := by decide +kernel
theorem dX9_go_70 : decode cX9_go 70 = .ok (.iadd, 1) := by decide +kernel
theorem dX9_go_71 : decode cX9_go 71 = .ok (.laload, 1) := by decide +kernel
theorem dX9_go_72 : decode cX9_go 72 = .ok (.lastore, 1) := by decide +kernel
theorem dX9_go_73 : decode cX9_go 73 = .ok (.aload_n 0, 1) := by decide +kernel
theorem dX9_go_74 : decode cX9_go 74 = .ok (.getfield 29, 3) := by decide +kernel
theorem dX9_go_77 : decode cX9_go 77 = .ok (.iload_n 3, 1) := by decide +kernel
theorem dX9_go_78 : decode cX9_go 78 = .ok (.aload_n 0, 1) := by decide +kernel
theorem dX9_go_79 : decode cX9_go 79 = .ok (.getfield 89, 3) := by decide +kernel
theorem dX9_go_82 : decode cX9_go 82 = .ok (.iload 4, 2) := by decide +kernel
theorem dX9_go_84 : decode cX9_go 84 = .ok (.iload_n 3, 1) := by decide +kernel
theorem dX9_go_85 : decode cX9_go 85 = .ok (.iadd, 1) := by decide +kernel
theorem dX9_go_86 : decode cX9_go 86 = .ok (.laload, 1) := by decide +kernel
theorem dX9_go_87 : decode cX9_go 87 = .ok (.lastore, 1) := by decide +kernel
theorem dX9_go_88 : decode cX9_go 88 = .ok (.aload_n 0, 1) := by decide +kernel
theorem dX9_go_89 : decode cX9_go 89 = .ok (.getfield 32, 3) := by decide +kernel
theorem dX9_go_92 : decode cX9_go 92 = .ok (.iload_n 3, 1) := by decide +kernel
theorem dX9_go_93 : decode cX9_go 93 = .ok (.aload_n 0, 1) := by decide +kernel
theorem dX9_go_94 : decode cX9_go 94 = .ok (.getfield 86, 3) := by decide +kernel
theorem dX9_go_97 : decode cX9_go 97 = .ok (.iload 4, 2) := by decide +kernel
theorem dX9_go_99 : decode cX9_go 99 = .ok (.bipush 6, 2) := by decide +kernel
theorem dX9_go_101 : decode cX9_go 101 = .ok (.iadd, 1) := by decide +kernel
theorem dX9_go_102 : decode cX9_go 102 = .ok (.iload_n 3, 1) := by decide +kernel
theorem dX9_go_103 : decode cX9_go 103 = .ok (.iadd, 1) := by decide +kernel
theorem dX9_go_104 : decode cX9_go 104 = .ok (.laload, 1) := by decide +kernel
theorem dX9_go_105 : decode cX9_go 105 = .ok (.lastore, 1) := by decide +kernel
theorem dX9_go_106 : decode cX9_go 106 = .ok (.aload_n 0, 1) := by decide +kernel
theorem dX9_go_107 : decode cX9_go 107 = .ok (.getfield 35, 3) := by decide +kernel
theorem dX9_go_110 : decode cX9_go 110 = .ok (.iload_n 3, 1) := by decide +kernel
theorem dX9_go_111 : decode cX9_go 111 = .ok (.aload_n 0, 1) := by decide +kernel
theorem dX9_go_112 : decode cX9_go 112 = .ok (.getfield 89, 3) := by decide +kernel
theorem dX9_go_115 : decode cX9_go 115 = .ok (.iload 4, 2) := by decide +kernel
theorem dX9_go_117 : decode cX9_go 117 = .ok (.bipush 6, 2) := by decide +kernel
theorem dX9_go_119 : decode cX9_go 119 = .ok (.iadd, 1) := by decide +kernel
theorem dX9_go_120 : decode cX9_go 120 = .ok (.iload_n 3, 1) := by decide +kernel
theorem dX9_go_121 : decode cX9_go 121 = .ok (.iadd, 1) := by decide +kernel
theorem dX9_go_122 : decode cX9_go 122 = .ok (.laload, 1) := by decide +kernel
theorem dX9_go_123 : decode cX9_go 123 = .ok (.lastore, 1) := by decide +kernel
theorem dX9_go_124 : decode cX9_go 124 = .ok (.iinc 3 1, 3) := by decide +kernel
theorem dX9_go_127 : decode cX9_go 127 = .ok (.goto (-89), 3) := by decide +kernel
theorem dX9_go_130 : decode cX9_go 130 = .ok (.iload_n 2, 1) := by decide +kernel
theorem dX9_go_131 : decode cX9_go 131 = .ok (.ireturn, 1) := by decide +kernel
theorem dX9_feed_0 : decode cX9_feed 0 = .ok (.iload_n 1, 1) := by decide +kernel
theorem dX9_feed_1 : decode cX9_feed 1 = .ok (.i2l, 1) := by decide +kernel
theorem dX9_feed_2 : decode cX9_feed 2 = .ok (.lconst 0, 1) := by decide +kernel
theorem dX9_feed_3 : decode cX9_feed 3 = .ok (.ldc2_w 292, 3) := by decide +kernel
theorem dX9_feed_6 : decode cX9_feed 6 = .ok (.invokestatic 266, 3) := by decide +kernel
theorem dX9_feed_9 : decode cX9_feed 9 = .ok (.ifCond .ne 6, 3) := by decide +kernel
theorem dX9_feed_12 : decode cX9_feed 12 = .ok (.bipush (-2), 2) := by decide +kernel
theorem dX9_feed_14 : decode cX9_feed 14 = .ok (.ireturn, 1) := by decide +kernel
theorem dX9_feed_15 : decode cX9_feed 15 = .ok (.aload_n 0, 1) := by decide +kernel
theorem dX9_feed_16 : decode cX9_feed 16 = .ok (.getfield 294, 3) := by decide +kernel
theorem dX9_feed_19 : decode cX9_feed 19 = .ok (.bipush 100, 2) := by decide +kernel
theorem dX9_feed_21 : decode cX9_feed 21 = .ok (.if_icmp .ne 6, 3) := by decide +kernel
theorem dX9_feed_24 : decode cX9_feed 24 = .ok (.bipush (-4), 2) := by decide +kernel
theorem dX9_feed_26 : decode cX9_feed 26 = .ok (.ireturn, 1) := by decide +kernel
theorem dX9_feed_27 : decode cX9_feed 27 = .ok (.aload_n 0, 1) := by decide +kernel
theorem dX9_feed_28 : decode cX9_feed 28 = .ok (.getfield 92, 3) := by decide +kernel
theorem dX9_feed_31 : decode cX9_feed 31 = .ok (.aload_n 0, 1) := by decide +kernel
theorem dX9_feed_32 : decode cX9_feed 32 = .ok (.getfield 294, 3) := by decide +kernel
theorem dX9_feed_35 : decode cX9_feed 35 = .ok (.iload_n 1, 1) := by decide +kernel
theorem dX9_feed_36 : decode cX9_feed 36 = .ok (.iastore, 1) := by decide +kernel
theorem dX9_feed_37 : decode cX9_feed 37 = .ok (.aload_n 0, 1) := by decide +kernel
theorem dX9_feed_38 : decode cX9_feed 38 = .ok (.dup, 1) := by decide +kernel
theorem dX9_feed_39 : decode cX9_feed 39 = .ok (.getfield 294, 3) := by decide +kernel
theorem dX9_feed_42 : decode cX9_feed 42 = .ok (.iconst 1, 1) := by decide +kernel
theorem dX9_feed_43 : decode cX9_feed 43 = .ok (.iadd, 1) := by decide +kernel
theorem dX9_feed_44 : decode cX9_feed 44 = .ok (.putfield 294, 3) := by decide +kernel
theorem dX9_feed_47 : decode cX9_feed 47 = .ok (.aload_n 0, 1) := by decide +kernel
theorem dX9_feed_48 : decode cX9_feed 48 = .ok (.getfield 294, 3) := by decide +kernel
theorem dX9_feed_51 : decode cX9_feed 51 = .ok (.ireturn, 1) := by decide +kernel
theorem dX9_isSign_0 : decode cX9_isSign 0 = .ok (.aload_n 0, 1) := by decide +kernel
theorem dX9_isSign_1 : decode cX9_isSign 1 = .ok (.getfield 297, 3) := by decide +kernel
theorem dX9_isSign_4 : decode cX9_isSign 4 = .ok (.aload_n 0, 1) := by decide +kernel
theorem dX9_isSign_5 : decode cX9_isSign 5 = .ok (.getfield 294, 3) := by decide +kernel
theorem dX9_isSign_8 : decode cX9_isSign 8 = .ok (.if_icmp .eq 16, 3) := by decide +kernel
theorem dX9_isSign_11 : decode cX9_isSign 11 = .ok (.aload_n 0, 1) := by decide +kernel
theorem dX9_isSign_12 : decode cX9_isSign 12 = .ok (.getfield 92, 3) := by decide +kernel
theorem dX9_isSign_15 : decode cX9_isSign 15 = .ok (.aload_n 0, 1) := by decide +kernel
theorem dX9_isSign_16 : decode cX9_isSign 16 = .ok (.getfield 297, 3) := by decide +kernel
theorem dX9_isSign_19 : decode cX9_isSign 19 = .ok (.iaload, 1) := by decide +kernel
theorem dX9_isSign_20 : decode cX9_isSign 20 = .ok (.iload_n 1, 1) := by decide +kernel
theorem dX9_isSign_21 : decode cX9_isSign 21 = .ok (.if_icmp .eq 5, 3) := by decide +kernel
theorem dX9_isSign_24 : decode cX9_isSign 24 = .ok (.iconst 0, 1) := by decide +kernel
theorem dX9_isSign_25 : decode cX9_isSign 25 = .ok (.ireturn, 1) := by decide +kernel
theorem dX9_isSign_26 : decode cX9_isSign 26 = .ok (.aload_n 0, 1) := by decide +kernel
theorem dX9_isSign_27 : decode cX9_isSign 27 = .ok (.dup, 1) := by decide +kernel
theorem dX9_isSign_28 : decode cX9_isSign 28 = .ok (.getfield 297, 3) := by decide +kernel
theorem dX9_isSign_31 : decode cX9_isSign 31 = .ok (.iconst 1, 1) := by decide +kernel
theorem dX9_isSign_32 : decode cX9_isSign 32 = .ok (.iadd, 1) := by decide +kernel
theorem dX9_isSign_33 : decode cX9_isSign 33 = .ok (.putfield 297, 3) := by decide +kernel
theorem dX9_isSign_36 : decode cX9_isSign 36 = .ok (.iconst 1, 1) := by decide +kernel
theorem dX9_isSign_37 : decode cX9_isSign 37 = .ok (.ireturn, 1) := by decide +kernel
theorem dX9_number_0 : decode cX9_number 0 = .ok (.iconst (-1), 1) := by decide +kernel
theorem dX9_number_1 : decode cX9_number 1 = .ok (.istore_n 2, 1) := by decide +kernel
theorem dX9_number_2 : decode cX9_number 2 = .ok (.iconst 0, 1) := by decide +kernel
theorem dX9_number_3 : decode cX9_number 3 = .ok (.istore_n 3, 1) := by decide +kernel
theorem dX9_number_4 : decode cX9_number 4 = .ok (.iload_n 3, 1) := by decide +kernel
theorem dX9_number_5 : decode cX9_number 5 = .ok (.iload_n 1, 1) := by decide +kernel
theorem dX9_number_6 : decode cX9_number 6 = .ok (.if_icmp .ge 78, 3) := by decide +kernel
theorem dX9_number_9 : decode cX9_number 9 = .ok (.aload_n 0, 1) := by decide +kernel
theorem dX9_number_10 : decode cX9_number 10 = .ok (.getfield 297, 3) := by decide +kernel
theorem dX9_number_13 : decode cX9_number 13 = .ok (.aload_n 0, 1) := by decide +kernel
theorem dX9_number_14 : decode cX9_number 14 = .ok (.getfield 294, 3) := by decide +kernel
theorem dX9_number_17 : decode cX9_number 17 = .ok (.if_icmp .ge 67, 3) := by decide +kernel
theorem dX9_number_20 : decode cX9_number 20 = .ok (.aload_n 0, 1) := by decide +kernel
theorem dX9_number_21 : decode cX9_number 21 = .ok (.getfield 92, 3) := by decide +kernel
theorem dX9_number_24 : decode cX9_number 24 = .ok (.aload_n 0, 1) := by decide +kernel
theorem dX9_number_25 : decode cX9_number 25 = .ok (.getfield 297, 3) := by decide +kernel
theorem dX9_number_28 : decode cX9_number 28 = .ok (.iaload, 1) := by decide +kernel
theorem dX9_number_29 : decode cX9_number 29 = .ok (.i2l, 1) := by decide +kernel
theorem dX9_number_30 : decode cX9_number 30 = .ok (.ldc2_w 300, 3) := by decide +kernel
theorem dX9_number_33 : decode cX9_number 33 = .ok (.ldc2_w 302, 3) := by decide +kernel
theorem dX9_number_36 : decode cX9_number 36 = .ok (.invokestatic 266, 3) := by decide +kernel
theorem dX9_number_39 : decode cX9_number 39 = .ok (.ifCond .eq 45, 3) := by decide +kernel
theorem dX9_number_42 : decode cX9_number 42 = .ok (.iload_n 2, 1) := by decide +kernel
theorem dX9_number_43 : decode cX9_number 43 = .ok (.ifCond .ge 7, 3) := by decide +kernel
theorem dX9_number_46 : decode cX9_number 46 = .ok (.iconst 0, 1) := by decide +kernel
theorem dX9_number_47 : decode cX9_number 47 = .ok (.goto 7, 3) := by decide +kernel
theorem dX9_number_50 : decode cX9_number 50 = .ok (.bipush 10, 2) := by decide +kernel
theorem dX9_number_52 : decode cX9_number 52 = .ok (.iload_n 2, 1) := by decide +kernel
theorem dX9_number_53 : decode cX9_number 53 = .ok (.imul, 1) := by decide +kernel
theorem dX9_number_54 : decode cX9_number 54 = .ok (.aload_n 0, 1) := by decide +kernel
theorem dX9_number_55 : decode cX9_number 55 = .ok (.getfield 92, 3) := by decide +kernel
theorem dX9_number_58 : decode cX9_number 58 = .ok (.aload_n 0, 1) := by decide +kernel
theorem dX9_number_59 : decode cX9_number 59 = .ok (.getfield 297, 3) := by decide +kernel
theorem dX9_number_62 : decode cX9_number 62 = .ok (.iaload, 1) := by decide +kernel
theorem dX9_number_63 : decode cX9_number 63 = .ok (.iadd, 1) := by decide +kernel
theorem dX9_number_64 : decode cX9_number 64 = .ok (.bipush 48, 2) := by decide +kernel
theorem dX9_number_66 : decode cX9_number 66 = .ok (.isub, 1) := by decide +kernel
theorem dX9_number_67 : decode cX9_number 67 = .ok (.istore_n 2, 1) := by decide +kernel
theorem dX9_number_68 : decode cX9_number 68 = .ok (.aload_n 0, 1) := by decide +kernel
theorem dX9_number_69 : decode cX9_number 69 = .ok (.dup, 1) := by decide +kernel
theorem dX9_number_70 : decode cX9_number 70 = .ok (.getfield 297, 3) := by decide +kernel
theorem dX9_number_73 : decode cX9_number 73 = .ok (.iconst 1, 1) := by decide +kernel
theorem dX9_number_74 : decode cX9_number 74 = .ok (.iadd, 1) := by decide +kernel
theorem dX9_number_75 : decode cX9_number 75 = .ok (.putfield 297, 3) := by decide +kernel
theorem dX9_number_78 : decode cX9_number 78 = .ok (.iinc 3 1, 3) := by decide +kernel
theorem dX9_number_81 : decode cX9_number 81 = .ok (.goto (-77), 3) := by decide +kernel
theorem dX9_number_84 : decode cX9_number 84 = .ok (.iload_n 2, 1) := by decide +kernel
theorem dX9_number_85 : decode cX9_number 85 = .ok (.ireturn, 1) := by decide +kernel
theorem dX9_clause_0 : decode cX9_clause 0 = .ok (.aload_n 0, 1) := by decide +kernel
theorem dX9_clause_1 : decode cX9_clause 1 = .ok (.getfield 297, 3) := by decide +kernel
theorem dX9_clause_4 : decode cX9_clause 4 = .ok (.aload_n 0, 1) := by decide +kernel
theorem dX9_clause_5 : decode cX9_clause 5 = .ok (.getfield 294, 3) := by decide +kernel
theorem dX9_clause_8 : decode cX9_clause 8 = .ok (.if_icmp .ge 15, 3) := by decide +kernel
theorem dX9_clause_11 : decode cX9_clause 11 = .ok (.aload_n 0, 1) := by decide +kernel
theorem dX9_clause_12 : decode cX9_clause 12 = .ok (.getfield 92, 3) := by decide +kernel
theorem dX9_clause_15 : decode cX9_clause 15 = .ok (.aload_n 0, 1) := by decide +kernel
theorem dX9_clause_16 : decode cX9_clause 16 = .ok (.getfield 297, 3) := by decide +kernel
theorem dX9_clause_19 : decode cX9_clause 19 = .ok (.iaload, 1) := by decide +kernel
theorem dX9_clause_20 : decode cX9_clause 20 = .ok (.goto 4, 3) := by decide +kernel
theorem dX9_clause_23 : decode cX9_clause 23 = .ok (.iconst (-1), 1) := by decide +kernel
theorem dX9_clause_24 : decode cX9_clause 24 = .ok (.istore_n 2, 1) := by decide +kernel
theorem dX9_clause_25 : decode cX9_clause 25 = .ok (.iload_n 2, 1) := by decide +kernel
theorem dX9_clause_26 : decode cX9_clause 26 = .ok (.bipush 98, 2) := by decide +kernel
theorem dX9_clause_28 : decode cX9_clause 28 = .ok (.if_icmp .eq 29, 3) := by decide +kernel
theorem dX9_clause_31 : decode cX9_clause 31 = .ok (.iload_n 2, 1) := by decide +kernel
theorem dX9_clause_32 : decode cX9_clause 32 = .ok (.bipush 101, 2) := by decide +kernel
theorem dX9_clause_34 : decode cX9_clause 34 = .ok (.if_icmp .eq 23, 3) := by decide +kernel
theorem dX9_clause_37 : decode cX9_clause 37 = .ok (.iload_n 2, 1) := by decide +kernel
theorem dX9_clause_38 : decode cX9_clause 38 = .ok (.bipush 108, 2) := by decide +kernel
theorem dX9_clause_40 : decode cX9_clause 40 = .ok (.if_icmp .eq 17, 3) := by decide +kernel
theorem dX9_clause_43 : decode cX9_clause 43 = .ok (.iload_n 2, 1) := by decide +kernel
theorem dX9_clause_44 : decode cX9_clause 44 = .ok (.bipush 114, 2) := by decide +kernel
theorem dX9_clause_46 : decode cX9_clause 46 = .ok (.if_icmp .eq 11, 3) := by decide +kernel
theorem dX9_clause_49 : decode cX9_clause 49 = .ok (.iload_n 2, 1) := by decide +kernel
theorem dX9_clause_50 : decode cX9_clause 50 = .ok (.bipush 103, 2) := by decide +kernel
theorem dX9_clause_52 : decode cX9_clause 52 = .ok (.if_icmp .eq 5, 3) := by decide +kernel
theorem dX9_clause_55 : decode cX9_clause 55 = .ok (.iconst 0, 1) := by decide +kernel
theorem dX9_clause_56 : decode cX9_clause 56 = .ok (.ireturn, 1) := by decide +kernel
theorem dX9_clause_57 : decode cX9_clause 57 = .ok (.aload_n 0, 1) := by decide +kernel
theorem dX9_clause_58 : decode cX9_clause 58 = .ok (.dup, 1) := by decide +kernel
theorem dX9_clause_59 : decode cX9_clause 59 = .ok (.getfield 297, 3) := by decide +kernel
theorem dX9_clause_62 : decode cX9_clause 62 = .ok (.iconst 1, 1) := by decide +kernel
theorem dX9_clause_63 : decode cX9_clause 63 = .ok (.iadd, 1) := by decide +kernel
theorem dX9_clause_64 : decode cX9_clause 64 = .ok (.putfield 297, 3) := by decide +kernel
theorem dX9_clause_67 : decode cX9_clause 67 = .ok (.aload_n 0, 1) := by decide +kernel
theorem dX9_clause_68 : decode cX9_clause 68 = .ok (.getfield 95, 3) := by decide +kernel
theorem dX9_clause_71 : decode cX9_clause 71 = .ok (.iload_n 1, 1) := by decide +kernel
theorem dX9_clause_72 : decode cX9_clause 72 = .ok (.iload_n 2, 1) := by decide +kernel
theorem dX9_clause_73 : decode cX9_clause 73 = .ok (.iastore, 1) := by decide +kernel
theorem dX9_clause_74 : decode cX9_clause 74 = .ok (.iload_n 2, 1) := by decide +kernel
theorem dX9_clause_75 : decode cX9_clause 75 = .ok (.bipush 108, 2) := by decide +kernel
theorem dX9_clause_77 : decode cX9_clause 77 = .ok (.if_icmp .eq 9, 3) := by decide +kernel
theorem dX9_clause_80 : decode cX9_clause 80 = .ok (.iload_n 2, 1) := by decide +kernel
theorem dX9_clause_81 : decode cX9_clause 81 = .ok (.bipush 114, 2) := by decide +kernel
theorem dX9_clause_83 : decode cX9_clause 83 = .ok (.if_icmp .ne 21, 3) := by decide +kernel
theorem dX9_clause_86 : decode cX9_clause 86 = .ok (.aload_n 0, 1) := by decide +kernel
theorem dX9_clause_87 : decode cX9_clause 87 = .ok (.bipush 110, 2) := by decide +kernel
theorem dX9_clause_89 : decode cX9_clause 89 = .ok (.invokevirtual 304, 3) := by decide +kernel
theorem dX9_clause_92 : decode cX9_clause 92 = .ok (.ifCond .eq 12, 3) := by decide +kernel
theorem dX9_clause_95 : decode cX9_clause 95 = .ok (.aload_n 0, 1) := by decide +kernel
theorem dX9_clause_96 : decode cX9_clause 96 = .ok (.getfield 98, 3) := by decide +kernel
theorem dX9_clause_99 : decode cX9_clause 99 = .ok (.iload_n 1, 1) := by decide +kernel
theorem dX9_clause_100 : decode cX9_clause 100 = .ok (.iconst (-1), 1) := by decide +kernel
theorem dX9_clause_101 : decode cX9_clause 101 = .ok (.iastore, 1) := by decide +kernel
theorem dX9_clause_102 : decode cX9_clause 102 = .ok (.iconst 1, 1) := by decide +kernel
theorem dX9_clause_103 : decode cX9_clause 103 = .ok (.ireturn, 1) := by decide +kernel
theorem dX9_clause_104 : decode cX9_clause 104 = .ok (.aload_n 0, 1) := by decide +kernel
theorem dX9_clause_105 : decode cX9_clause 105 = .ok (.getfield 98, 3) := by decide +kernel
theorem dX9_clause_108 : decode cX9_clause 108 = .ok (.iload_n 1, 1) := by decide +kernel
theorem dX9_clause_109 : decode cX9_clause 109 = .ok (.aload_n 0, 1) := by decide +kernel
theorem dX9_clause_110 : decode cX9_clause 110 = .ok (.iload_n 2, 1) := by decide +kernel
theorem dX9_clause_111 : decode cX9_clause 111 = .ok (.bipush 98, 2) := by decide +kernel
theorem dX9_clause_113 : decode cX9_clause 113 = .ok (.if_icmp .eq 9, 3) := by decide +kernel
theorem dX9_clause_116 : decode cX9_clause 116 = .ok (.iload_n 2, 1) := by decide +kernel
theorem dX9_clause_117 : decode cX9_clause 117 = .ok (.bipush 103, 2) := by decide +kernel
theorem dX9_clause_119 : decode cX9_clause 119 = .ok (.if_icmp .ne 7, 3) := by decide +kernel
theorem dX9_clause_122 : decode cX9_clause 122 = .ok (.iconst 2, 1) := by decide +kernel
theorem dX9_clause_123 : decode cX9_clause 123 = .ok (.goto 4, 3) := by decide +kernel
theorem dX9_clause_126 : decode cX9_clause 126 = .ok (.iconst 1, 1) := by decide +kernel
theorem dX9_clause_127 : decode cX9_clause 127 = .ok (.invokevirtual 307, 3) := by decide +kernel
theorem dX9_clause_130 : decode cX9_clause 130 = .ok (.iastore, 1) := by decide +kernel
theorem dX9_clause_131 : decode cX9_clause 131 = .ok (.aload_n 0, 1) := by decide +kernel
theorem dX9_clause_132 : decode cX9_clause 132 = .ok (.getfield 98, 3) := by decide +kernel
theorem dX9_clause_135 : decode cX9_clause 135 = .ok (.iload_n 1, 1) := by decide +kernel
theorem dX9_clause_136 : decode cX9_clause 136 = .ok (.iaload, 1) := by decide +kernel
theorem dX9_clause_137 : decode cX9_clause 137 = .ok (.ifCond .ge 5, 3) := by decide +kernel
theorem dX9_clause_140 : decode cX9_clause 140 = .ok (.iconst 0, 1) := by decide +kernel
theorem dX9_clause_141 : decode cX9_clause 141 = .ok (.ireturn, 1) := by decide +kernel
theorem dX9_clause_142 : decode cX9_clause 142 = .ok (.iload_n 2, 1) := by decide +kernel
theorem dX9_clause_143 : decode cX9_clause 143 = .ok (.bipush 98, 2) := by decide +kernel
theorem dX9_clause_145 : decode cX9_clause 145 = .ok (.if_icmp .eq 5, 3) := by decide +kernel
theorem dX9_clause_148 : decode cX9_clause 148 = .ok (.iconst 1, 1) := by decide +kernel
theorem dX9_clause_149 : decode cX9_clause 149 = .ok (.ireturn, 1) := by decide +kernel
theorem dX9_clause_150 : decode cX9_clause 150 = .ok (.aload_n 0, 1) := by decide +kernel
theorem dX9_clause_151 : decode cX9_clause 151 = .ok (.bipush 44, 2) := by decide +kernel
theorem dX9_clause_153 : decode cX9_clause 153 = .ok (.invokevirtual 304, 3) := by decide +kernel
theorem dX9_clause_156 : decode cX9_clause 156 = .ok (.ifCond .ne 5, 3) := by decide +kernel
theorem dX9_clause_159 : decode cX9_clause 159 = .ok (.iconst 0, 1) := by decide +kernel
theorem dX9_clause_160 : decode cX9_clause 160 = .ok (.ireturn, 1) := by decide +kernel
theorem dX9_clause_161 : decode cX9_clause 161 = .ok (.aload_n 0, 1) := by decide +kernel
theorem dX9_clause_162 : decode cX9_clause 162 = .ok (.getfield 101, 3) := by decide +kernel
theorem dX9_clause_165 : decode cX9_clause 165 = .ok (.iload_n 1, 1) := by decide +kernel
theorem dX9_clause_166 : decode cX9_clause 166 = .ok (.aload_n 0, 1) := by decide +kernel
theorem dX9_clause_167 : decode cX9_clause 167 = .ok (.iconst 1, 1) := by decide +kernel
theorem dX9_clause_168 : decode cX9_clause 168 = .ok (.invokevirtual 307, 3) := by decide +kernel
theorem dX9_clause_171 : decode cX9_clause 171 = .ok (.iastore, 1) := by decide +kernel
theorem dX9_clause_172 : decode cX9_clause 172 = .ok (.aload_n 0, 1) := by decide +kernel
theorem dX9_clause_173 : decode cX9_clause 173 = .ok (.getfield 101, 3) := by decide +kernel
theorem dX9_clause_176 : decode cX9_clause 176 = .ok (.iload_n 1, 1) := by decide +kernel
theorem dX9_clause_177 : decode cX9_clause 177 = .ok (.iaload, 1) := by decide +kernel
theorem dX9_clause_178 : decode cX9_clause 178 = .ok (.ifCond .lt 12, 3) := by decide +kernel
theorem dX9_clause_181 : decode cX9_clause 181 = .ok (.aload_n 0, 1) := by decide +kernel
theorem dX9_clause_182 : decode cX9_clause 182 = .ok (.bipush 44, 2) := by decide +kernel
theorem dX9_clause_184 : decode cX9_clause 184 = .ok (.invokevirtual 304, 3) := by decide +kernel
theorem dX9_clause_187 : decode cX9_clause 187 = .ok (.ifCond .ne 5, 3) := by decide +kernel
theorem dX9_clause_190 : decode cX9_clause 190 = .ok (.iconst 0, 1) := by decide +kernel
theorem dX9_clause_191 : decode cX9_clause 191 = .ok (.ireturn, 1) := by decide +kernel
theorem dX9_clause_192 : decode cX9_clause 192 = .ok (.aload_n 0, 1) := by decide +kernel
theorem dX9_clause_193 : decode cX9_clause 193 = .ok (.bipush 45, 2) := by decide +kernel
theorem dX9_clause_195 : decode cX9_clause 195 = .ok (.invokevirtual 304, 3) := by decide +kernel
theorem dX9_clause_198 : decode cX9_clause 198 = .ok (.istore_n 3, 1) := by decide +kernel
theorem dX9_clause_199 : decode cX9_clause 199 = .ok (.aload_n 0, 1) := by decide +kernel
theorem dX9_clause_200 : decode cX9_clause 200 = .ok (.getfield 104, 3) := by decide +kernel
theorem dX9_clause_203 : decode cX9_clause 203 = .ok (.iload_n 1, 1) := by decide +kernel
theorem dX9_clause_204 : decode cX9_clause 204 = .ok (.aload_n 0, 1) := by decide +kernel
theorem dX9_clause_205 : decode cX9_clause 205 = .ok (.iconst 1, 1) := by decide +kernel
theorem dX9_clause_206 : decode cX9_clause 206 = .ok (.invokevirtual 307, 3) := by decide +kernel
theorem dX9_clause_209 : decode cX9_clause 209 = .ok (.iastore, 1) := by decide +kernel
theorem dX9_clause_210 : decode cX9_clause 210 = .ok (.aload_n 0, 1) := by decide +kernel
theorem dX9_clause_211 : decode cX9_clause 211 = .ok (.getfield 104, 3) := by decide +kernel
theorem dX9_clause_214 : decode cX9_clause 214 = .ok (.iload_n 1, 1) := by decide +kernel
theorem dX9_clause_215 : decode cX9_clause 215 = .ok (.iaload, 1) := by decide +kernel
theorem dX9_clause_216 : decode cX9_clause 216 = .ok (.ifCond .ge 5, 3) := by decide +kernel
theorem dX9_clause_219 : decode cX9_clause 219 = .ok (.iconst 0, 1) := by decide +kernel
theorem dX9_clause_220 : decode cX9_clause 220 = .ok (.ireturn, 1) := by decide +kernel
theorem dX9_clause_221 : decode cX9_clause 221 = .ok (.aload_n 0, 1) := by decide +kernel
theorem dX9_clause_222 : decode cX9_clause 222 = .ok (.getfield 104, 3) := by decide +kernel
theorem dX9_clause_225 : decode cX9_clause 225 = .ok (.iload_n 1, 1) := by decide +kernel
theorem dX9_clause_226 : decode cX9_clause 226 = .ok (.iload_n 3, 1) := by decide +kernel
theorem dX9_clause_227 : decode cX9_clause 227 = .ok (.ifCond .eq 13, 3) := by decide +kernel
theorem dX9_clause_230 : decode cX9_clause 230 = .ok (.aload_n 0, 1) := by decide +kernel
theorem dX9_clause_231 : decode cX9_clause 231 = .ok (.getfield 104, 3) := by decide +kernel
theorem dX9_clause_234 : decode cX9_clause 234 = .ok (.iload_n 1, 1) := by decide +kernel
theorem dX9_clause_235 : decode cX9_clause 235 = .ok (.iaload, 1) := by decide +kernel
theorem dX9_clause_236 : decode cX9_clause 236 = .ok (.ineg, 1) := by decide +kernel
theorem dX9_clause_237 : decode cX9_clause 237 = .ok (.goto 9, 3) := by decide +kernel
theorem dX9_clause_240 : decode cX9_clause 240 = .ok (.aload_n 0, 1) := by decide +kernel
theorem dX9_clause_241 : decode cX9_clause 241 = .ok (.getfield 104, 3) := by decide +kernel
theorem dX9_clause_244 : decode cX9_clause 244 = .ok (.iload_n 1, 1) := by decide +kernel
theorem dX9_clause_245 : decode cX9_clause 245 = .ok (.iaload, 1) := by decide +kernel
theorem dX9_clause_246 : decode cX9_clause 246 = .ok (.iastore, 1) := by decide +kernel
theorem dX9_clause_247 : decode cX9_clause 247 = .ok (.iconst 1, 1) := by decide +kernel
theorem dX9_clause_248 : decode cX9_clause 248 = .ok (.ireturn, 1) := by decide +kernel
theorem dX9_isDone_0 : decode cX9_isDone 0 = .ok (.aload_n 0, 1) := by decide +kernel
theorem dX9_isDone_1 : decode cX9_isDone 1 = .ok (.getfield 95, 3) := by decide +kernel
theorem dX9_isDone_4 : decode cX9_isDone 4 = .ok (.iload_n 1, 1) := by decide +kernel
theorem dX9_isDone_5 : decode cX9_isDone 5 = .ok (.iaload, 1) := by decide +kernel
theorem dX9_isDone_6 : decode cX9_isDone 6 = .ok (.lookupswitch 103 #[(98, 34), (101, 65), (103, 84)], 34) := by decide +kernel
theorem dX9_isDone_40 : decode cX9_isDone 40 = .ok (.aload_n 0, 1) := by decide +kernel
theorem dX9_isDone_41 : decode cX9_isDone 41 = .ok (.aload_n 0, 1) := by decide +kernel
theorem dX9_isDone_42 : decode cX9_isDone 42 = .ok (.getfield 98, 3) := by decide +kernel
theorem dX9_isDone_45 : decode cX9_isDone 45 = .ok (.iload_n 1, 1) := by decide +kernel
theorem dX9_isDone_46 : decode cX9_isDone 46 = .ok (.iaload, 1) := by decide +kernel
theorem dX9_isDone_47 : decode cX9_isDone 47 = .ok (.aload_n 0, 1) := by decide +kernel
theorem dX9_isDone_48 : decode cX9_isDone 48 = .ok (.getfield 101, 3) := by decide +kernel
theorem dX9_isDone_51 : decode cX9_isDone 51 = .ok (.iload_n 1, 1) := by decide +kernel
theorem dX9_isDone_52 : decode cX9_isDone 52 = .ok (.iaload, 1) := by decide +kernel
theorem dX9_isDone_53 : decode cX9_isDone 53 = .ok (.aload_n 0, 1) := by decide +kernel
theorem dX9_isDone_54 : decode cX9_isDone 54 = .ok (.getfield 104, 3) := by decide +kernel
theorem dX9_isDone_57 : decode cX9_isDone 57 = .ok (.iload_n 1, 1) := by decide +kernel
theorem dX9_isDone_58 : decode cX9_isDone 58 = .ok (.iaload, 1) := by decide +kernel
theorem dX9_isDone_59 : decode cX9_isDone 59 = .ok (.invokevirtual 310, 3) := by decide +kernel
theorem dX9_isDone_62 : decode cX9_isDone 62 = .ok (.ifCond .lt 7, 3) := by decide +kernel
theorem dX9_isDone_65 : decode cX9_isDone 65 = .ok (.iconst 1, 1) := by decide +kernel
theorem dX9_isDone_66 : decode cX9_isDone 66 = .ok (.goto 4, 3) := by decide +kernel
theorem dX9_isDone_69 : decode cX9_isDone 69 = .ok (.iconst 0, 1) := by decide +kernel
theorem dX9_isDone_70 : decode cX9_isDone 70 = .ok (.ireturn, 1) := by decide +kernel
theorem dX9_isDone_71 : decode cX9_isDone 71 = .ok (.aload_n 0, 1) := by decide +kernel
theorem dX9_isDone_72 : decode cX9_isDone 72 = .ok (.aload_n 0, 1) := by decide +kernel
theorem dX9_isDone_73 : decode cX9_isDone 73 = .ok (.getfield 98, 3) := by decide +kernel
theorem dX9_isDone_76 : decode cX9_isDone 76 = .ok (.iload_n 1, 1) := by decide +kernel
theorem dX9_isDone_77 : decode cX9_isDone 77 = .ok (.iaload, 1) := by decide +kernel
theorem dX9_isDone_78 : decode cX9_isDone 78 = .ok (.invokevirtual 314, 3) := by decide +kernel
theorem dX9_isDone_81 : decode cX9_isDone 81 = .ok (.ifCond .lt 7, 3) := by decide +kernel
theorem dX9_isDone_84 : decode cX9_isDone 84 = .ok (.iconst 1, 1) := by decide +kernel
theorem dX9_isDone_85 : decode cX9_isDone 85 = .ok (.goto 4, 3) := by decide +kernel
theorem dX9_isDone_88 : decode cX9_isDone 88 = .ok (.iconst 0, 1) := by decide +kernel
theorem dX9_isDone_89 : decode cX9_isDone 89 = .ok (.ireturn, 1) := by decide +kernel
theorem dX9_isDone_90 : decode cX9_isDone 90 = .ok (.aload_n 0, 1) := by decide +kernel
