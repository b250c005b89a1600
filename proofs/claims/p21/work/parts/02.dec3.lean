theorem dL_least_0 : decode cL_least 0 = .ok (.iload_n 0, 1) := by decide +kernel
theorem dL_least_1 : decode cL_least 1 = .ok (.iload_n 1, 1) := by decide +kernel
theorem dL_least_2 : decode cL_least 2 = .ok (.if_icmp .ge 7, 3) := by decide +kernel
theorem dL_least_5 : decode cL_least 5 = .ok (.iload_n 0, 1) := by decide +kernel
theorem dL_least_6 : decode cL_least 6 = .ok (.goto 4, 3) := by decide +kernel
theorem dL_least_9 : decode cL_least 9 = .ok (.iload_n 1, 1) := by decide +kernel
theorem dL_least_10 : decode cL_least 10 = .ok (.ireturn, 1) := by decide +kernel
theorem dL_pairsFit_0 : decode cL_pairsFit 0 = .ok (.aload_n 0, 1) := by decide +kernel
theorem dL_pairsFit_1 : decode cL_pairsFit 1 = .ok (.iload_n 1, 1) := by decide +kernel
theorem dL_pairsFit_2 : decode cL_pairsFit 2 = .ok (.iload_n 2, 1) := by decide +kernel
theorem dL_pairsFit_3 : decode cL_pairsFit 3 = .ok (.iconst 0, 1) := by decide +kernel
theorem dL_pairsFit_4 : decode cL_pairsFit 4 = .ok (.invokevirtual 43, 3) := by decide +kernel
theorem dL_pairsFit_7 : decode cL_pairsFit 7 = .ok (.istore_n 3, 1) := by decide +kernel
theorem dL_pairsFit_8 : decode cL_pairsFit 8 = .ok (.aload_n 0, 1) := by decide +kernel
theorem dL_pairsFit_9 : decode cL_pairsFit 9 = .ok (.iload_n 1, 1) := by decide +kernel
theorem dL_pairsFit_10 : decode cL_pairsFit 10 = .ok (.iload_n 2, 1) := by decide +kernel
theorem dL_pairsFit_11 : decode cL_pairsFit 11 = .ok (.iconst 1, 1) := by decide +kernel
theorem dL_pairsFit_12 : decode cL_pairsFit 12 = .ok (.invokevirtual 43, 3) := by decide +kernel
theorem dL_pairsFit_15 : decode cL_pairsFit 15 = .ok (.istore 4, 2) := by decide +kernel
theorem dL_pairsFit_17 : decode cL_pairsFit 17 = .ok (.aload_n 0, 1) := by decide +kernel
theorem dL_pairsFit_18 : decode cL_pairsFit 18 = .ok (.iload_n 1, 1) := by decide +kernel
theorem dL_pairsFit_19 : decode cL_pairsFit 19 = .ok (.iload_n 2, 1) := by decide +kernel
theorem dL_pairsFit_20 : decode cL_pairsFit 20 = .ok (.iconst 2, 1) := by decide +kernel
theorem dL_pairsFit_21 : decode cL_pairsFit 21 = .ok (.invokevirtual 43, 3) := by decide +kernel
theorem dL_pairsFit_24 : decode cL_pairsFit 24 = .ok (.istore 5, 2) := by decide +kernel
theorem dL_pairsFit_26 : decode cL_pairsFit 26 = .ok (.iconst 0, 1) := by decide +kernel
theorem dL_pairsFit_27 : decode cL_pairsFit 27 = .ok (.istore 6, 2) := by decide +kernel
theorem dL_pairsFit_29 : decode cL_pairsFit 29 = .ok (.iload_n 3, 1) := by decide +kernel
theorem dL_pairsFit_30 : decode cL_pairsFit 30 = .ok (.bipush 40, 2) := by decide +kernel
theorem dL_pairsFit_32 : decode cL_pairsFit 32 = .ok (.aload_n 0, 1) := by decide +kernel
theorem dL_pairsFit_33 : decode cL_pairsFit 33 = .ok (.iconst 0, 1) := by decide +kernel
theorem dL_pairsFit_34 : decode cL_pairsFit 34 = .ok (.iload_n 1, 1) := by decide +kernel
theorem dL_pairsFit_35 : decode cL_pairsFit 35 = .ok (.iload_n 2, 1) := by decide +kernel
theorem dL_pairsFit_36 : decode cL_pairsFit 36 = .ok (.iconst 3, 1) := by decide +kernel
theorem dL_pairsFit_37 : decode cL_pairsFit 37 = .ok (.invokevirtual 28, 3) := by decide +kernel
theorem dL_pairsFit_40 : decode cL_pairsFit 40 = .ok (.aload_n 0, 1) := by decide +kernel
theorem dL_pairsFit_41 : decode cL_pairsFit 41 = .ok (.iconst 1, 1) := by decide +kernel
theorem dL_pairsFit_42 : decode cL_pairsFit 42 = .ok (.iload_n 1, 1) := by decide +kernel
theorem dL_pairsFit_43 : decode cL_pairsFit 43 = .ok (.iload_n 2, 1) := by decide +kernel
theorem dL_pairsFit_44 : decode cL_pairsFit 44 = .ok (.iconst 3, 1) := by decide +kernel
theorem dL_pairsFit_45 : decode cL_pairsFit 45 = .ok (.invokevirtual 28, 3) := by decide +kernel
theorem dL_pairsFit_48 : decode cL_pairsFit 48 = .ok (.invokestatic 47, 3) := by decide +kernel
theorem dL_pairsFit_51 : decode cL_pairsFit 51 = .ok (.invokestatic 47, 3) := by decide +kernel
theorem dL_pairsFit_54 : decode cL_pairsFit 54 = .ok (.if_icmp .ne 58, 3) := by decide +kernel
theorem dL_pairsFit_57 : decode cL_pairsFit 57 = .ok (.iload_n 3, 1) := by decide +kernel
theorem dL_pairsFit_58 : decode cL_pairsFit 58 = .ok (.ifCond .ne 22, 3) := by decide +kernel
theorem dL_pairsFit_61 : decode cL_pairsFit 61 = .ok (.iload 4, 2) := by decide +kernel
theorem dL_pairsFit_63 : decode cL_pairsFit 63 = .ok (.sipush (-10009), 3) := by decide +kernel
theorem dL_pairsFit_66 : decode cL_pairsFit 66 = .ok (.if_icmp .ne 46, 3) := by decide +kernel
theorem dL_pairsFit_69 : decode cL_pairsFit 69 = .ok (.iload 5, 2) := by decide +kernel
theorem dL_pairsFit_71 : decode cL_pairsFit 71 = .ok (.sipush (-10009), 3) := by decide +kernel
theorem dL_pairsFit_74 : decode cL_pairsFit 74 = .ok (.if_icmp .ne 38, 3) := by decide +kernel
theorem dL_pairsFit_77 : decode cL_pairsFit 77 = .ok (.goto 31, 3) := by decide +kernel
theorem dL_pairsFit_80 : decode cL_pairsFit 80 = .ok (.iload 4, 2) := by decide +kernel
theorem dL_pairsFit_82 : decode cL_pairsFit 82 = .ok (.ifCond .lt 30, 3) := by decide +kernel
theorem dL_pairsFit_85 : decode cL_pairsFit 85 = .ok (.iload 4, 2) := by decide +kernel
theorem dL_pairsFit_87 : decode cL_pairsFit 87 = .ok (.sipush 400, 3) := by decide +kernel
theorem dL_pairsFit_90 : decode cL_pairsFit 90 = .ok (.if_icmp .gt 22, 3) := by decide +kernel
theorem dL_pairsFit_93 : decode cL_pairsFit 93 = .ok (.iload 5, 2) := by decide +kernel
theorem dL_pairsFit_95 : decode cL_pairsFit 95 = .ok (.iload 4, 2) := by decide +kernel
theorem dL_pairsFit_97 : decode cL_pairsFit 97 = .ok (.if_icmp .gt 15, 3) := by decide +kernel
theorem dL_pairsFit_100 : decode cL_pairsFit 100 = .ok (.iload 5, 2) := by decide +kernel
theorem dL_pairsFit_102 : decode cL_pairsFit 102 = .ok (.ineg, 1) := by decide +kernel
theorem dL_pairsFit_103 : decode cL_pairsFit 103 = .ok (.iload 4, 2) := by decide +kernel
theorem dL_pairsFit_105 : decode cL_pairsFit 105 = .ok (.if_icmp .gt 7, 3) := by decide +kernel
theorem dL_pairsFit_108 : decode cL_pairsFit 108 = .ok (.iconst 1, 1) := by decide +kernel
theorem dL_pairsFit_109 : decode cL_pairsFit 109 = .ok (.goto 4, 3) := by decide +kernel
theorem dL_pairsFit_112 : decode cL_pairsFit 112 = .ok (.iconst 0, 1) := by decide +kernel
theorem dL_pairsFit_113 : decode cL_pairsFit 113 = .ok (.istore 7, 2) := by decide +kernel
theorem dL_pairsFit_115 : decode cL_pairsFit 115 = .ok (.iconst 0, 1) := by decide +kernel
theorem dL_pairsFit_116 : decode cL_pairsFit 116 = .ok (.istore 8, 2) := by decide +kernel
theorem dL_pairsFit_118 : decode cL_pairsFit 118 = .ok (.iload 8, 2) := by decide +kernel
theorem dL_pairsFit_120 : decode cL_pairsFit 120 = .ok (.iload_n 3, 1) := by decide +kernel
theorem dL_pairsFit_121 : decode cL_pairsFit 121 = .ok (.if_icmp .ge 80, 3) := by decide +kernel
theorem dL_pairsFit_124 : decode cL_pairsFit 124 = .ok (.iconst 0, 1) := by decide +kernel
theorem dL_pairsFit_125 : decode cL_pairsFit 125 = .ok (.istore 9, 2) := by decide +kernel
theorem dL_pairsFit_127 : decode cL_pairsFit 127 = .ok (.iconst 0, 1) := by decide +kernel
theorem dL_pairsFit_128 : decode cL_pairsFit 128 = .ok (.istore 10, 2) := by decide +kernel
theorem dL_pairsFit_130 : decode cL_pairsFit 130 = .ok (.iload 10, 2) := by decide +kernel
theorem dL_pairsFit_132 : decode cL_pairsFit 132 = .ok (.bipush 6, 2) := by decide +kernel
theorem dL_pairsFit_134 : decode cL_pairsFit 134 = .ok (.if_icmp .ge 44, 3) := by decide +kernel
theorem dL_pairsFit_137 : decode cL_pairsFit 137 = .ok (.iload 9, 2) := by decide +kernel
theorem dL_pairsFit_139 : decode cL_pairsFit 139 = .ok (.aload_n 0, 1) := by decide +kernel
theorem dL_pairsFit_140 : decode cL_pairsFit 140 = .ok (.iconst 0, 1) := by decide +kernel
theorem dL_pairsFit_141 : decode cL_pairsFit 141 = .ok (.iload_n 1, 1) := by decide +kernel
theorem dL_pairsFit_142 : decode cL_pairsFit 142 = .ok (.iload_n 2, 1) := by decide +kernel
theorem dL_pairsFit_143 : decode cL_pairsFit 143 = .ok (.iload 8, 2) := by decide +kernel
theorem dL_pairsFit_145 : decode cL_pairsFit 145 = .ok (.iload 10, 2) := by decide +kernel
theorem dL_pairsFit_147 : decode cL_pairsFit 147 = .ok (.invokevirtual 32, 3) := by decide +kernel
theorem dL_pairsFit_150 : decode cL_pairsFit 150 = .ok (.aload_n 0, 1) := by decide +kernel
theorem dL_pairsFit_151 : decode cL_pairsFit 151 = .ok (.iconst 1, 1) := by decide +kernel
theorem dL_pairsFit_152 : decode cL_pairsFit 152 = .ok (.iload_n 1, 1) := by decide +kernel
theorem dL_pairsFit_153 : decode cL_pairsFit 153 = .ok (.iload_n 2, 1) := by decide +kernel
theorem dL_pairsFit_154 : decode cL_pairsFit 154 = .ok (.iload 8, 2) := by decide +kernel
theorem dL_pairsFit_156 : decode cL_pairsFit 156 = .ok (.iload 10, 2) := by decide +kernel
theorem dL_pairsFit_158 : decode cL_pairsFit 158 = .ok (.invokevirtual 32, 3) := by decide +kernel
theorem dL_pairsFit_161 : decode cL_pairsFit 161 = .ok (.if_icmp .ne 7, 3) := by decide +kernel
theorem dL_pairsFit_164 : decode cL_pairsFit 164 = .ok (.iconst 1, 1) := by decide +kernel
theorem dL_pairsFit_165 : decode cL_pairsFit 165 = .ok (.goto 4, 3) := by decide +kernel
theorem dL_pairsFit_168 : decode cL_pairsFit 168 = .ok (.iconst 0, 1) := by decide +kernel
theorem dL_pairsFit_169 : decode cL_pairsFit 169 = .ok (.iadd, 1) := by decide +kernel
theorem dL_pairsFit_170 : decode cL_pairsFit 170 = .ok (.istore 9, 2) := by decide +kernel
theorem dL_pairsFit_172 : decode cL_pairsFit 172 = .ok (.iinc 10 1, 3) := by decide +kernel
theorem dL_pairsFit_175 : decode cL_pairsFit 175 = .ok (.goto (-45), 3) := by decide +kernel
theorem dL_pairsFit_178 : decode cL_pairsFit 178 = .ok (.iload 6, 2) := by decide +kernel
theorem dL_pairsFit_180 : decode cL_pairsFit 180 = .ok (.iload 9, 2) := by decide +kernel
theorem dL_pairsFit_182 : decode cL_pairsFit 182 = .ok (.bipush 6, 2) := by decide +kernel
theorem dL_pairsFit_184 : decode cL_pairsFit 184 = .ok (.if_icmp .ne 7, 3) := by decide +kernel
theorem dL_pairsFit_187 : decode cL_pairsFit 187 = .ok (.iconst 1, 1) := by decide +kernel
theorem dL_pairsFit_188 : decode cL_pairsFit 188 = .ok (.goto 4, 3) := by decide +kernel
theorem dL_pairsFit_191 : decode cL_pairsFit 191 = .ok (.iconst 0, 1) := by decide +kernel
theorem dL_pairsFit_192 : decode cL_pairsFit 192 = .ok (.iadd, 1) := by decide +kernel
theorem dL_pairsFit_193 : decode cL_pairsFit 193 = .ok (.istore 6, 2) := by decide +kernel
theorem dL_pairsFit_195 : decode cL_pairsFit 195 = .ok (.iinc 8 1, 3) := by decide +kernel
theorem dL_pairsFit_198 : decode cL_pairsFit 198 = .ok (.goto (-80), 3) := by decide +kernel
theorem dL_pairsFit_201 : decode cL_pairsFit 201 = .ok (.iconst 0, 1) := by decide +kernel
theorem dL_pairsFit_202 : decode cL_pairsFit 202 = .ok (.istore 8, 2) := by decide +kernel
theorem dL_pairsFit_204 : decode cL_pairsFit 204 = .ok (.iload 8, 2) := by decide +kernel
theorem dL_pairsFit_206 : decode cL_pairsFit 206 = .ok (.bipush 6, 2) := by decide +kernel
theorem dL_pairsFit_208 : decode cL_pairsFit 208 = .ok (.if_icmp .ge 110, 3) := by decide +kernel
theorem dL_pairsFit_211 : decode cL_pairsFit 211 = .ok (.iload 7, 2) := by decide +kernel
theorem dL_pairsFit_213 : decode cL_pairsFit 213 = .ok (.ifCond .eq 105, 3) := by decide +kernel
theorem dL_pairsFit_216 : decode cL_pairsFit 216 = .ok (.bipush 63, 2) := by decide +kernel
theorem dL_pairsFit_218 : decode cL_pairsFit 218 = .ok (.istore 9, 2) := by decide +kernel
theorem dL_pairsFit_220 : decode cL_pairsFit 220 = .ok (.iconst 0, 1) := by decide +kernel
theorem dL_pairsFit_221 : decode cL_pairsFit 221 = .ok (.istore 10, 2) := by decide +kernel
theorem dL_pairsFit_223 : decode cL_pairsFit 223 = .ok (.iload 10, 2) := by decide +kernel
theorem dL_pairsFit_225 : decode cL_pairsFit 225 = .ok (.iload_n 3, 1) := by decide +kernel
theorem dL_pairsFit_226 : decode cL_pairsFit 226 = .ok (.if_icmp .ge 66, 3) := by decide +kernel
theorem dL_pairsFit_229 : decode cL_pairsFit 229 = .ok (.iconst 0, 1) := by decide +kernel
theorem dL_pairsFit_230 : decode cL_pairsFit 230 = .ok (.istore 11, 2) := by decide +kernel
theorem dL_pairsFit_232 : decode cL_pairsFit 232 = .ok (.iload 11, 2) := by decide +kernel
theorem dL_pairsFit_234 : decode cL_pairsFit 234 = .ok (.bipush 6, 2) := by decide +kernel
theorem dL_pairsFit_236 : decode cL_pairsFit 236 = .ok (.if_icmp .ge 50, 3) := by decide +kernel
theorem dL_pairsFit_239 : decode cL_pairsFit 239 = .ok (.iload 9, 2) := by decide +kernel
theorem dL_pairsFit_241 : decode cL_pairsFit 241 = .ok (.aload_n 0, 1) := by decide +kernel
theorem dL_pairsFit_242 : decode cL_pairsFit 242 = .ok (.iconst 0, 1) := by decide +kernel
theorem dL_pairsFit_243 : decode cL_pairsFit 243 = .ok (.iload_n 1, 1) := by decide +kernel
theorem dL_pairsFit_244 : decode cL_pairsFit 244 = .ok (.iload_n 2, 1) := by decide +kernel
theorem dL_pairsFit_245 : decode cL_pairsFit 245 = .ok (.iload 10, 2) := by decide +kernel
theorem dL_pairsFit_247 : decode cL_pairsFit 247 = .ok (.iload 8, 2) := by decide +kernel
theorem dL_pairsFit_249 : decode cL_pairsFit 249 = .ok (.invokevirtual 32, 3) := by decide +kernel
theorem dL_pairsFit_252 : decode cL_pairsFit 252 = .ok (.aload_n 0, 1) := by decide +kernel
theorem dL_pairsFit_253 : decode cL_pairsFit 253 = .ok (.iconst 1, 1) := by decide +kernel
theorem dL_pairsFit_254 : decode cL_pairsFit 254 = .ok (.iload_n 1, 1) := by decide +kernel
theorem dL_pairsFit_255 : decode cL_pairsFit 255 = .ok (.iload_n 2, 1) := by decide +kernel
theorem dL_pairsFit_256 : decode cL_pairsFit 256 = .ok (.iload 10, 2) := by decide +kernel
theorem dL_pairsFit_258 : decode cL_pairsFit 258 = .ok (.iload 11, 2) := by decide +kernel
theorem dL_pairsFit_260 : decode cL_pairsFit 260 = .ok (.invokevirtual 32, 3) := by decide +kernel
theorem dL_pairsFit_263 : decode cL_pairsFit 263 = .ok (.if_icmp .ne 8, 3) := by decide +kernel
theorem dL_pairsFit_266 : decode cL_pairsFit 266 = .ok (.bipush 63, 2) := by decide +kernel
theorem dL_pairsFit_268 : decode cL_pairsFit 268 = .ok (.goto 9, 3) := by decide +kernel
theorem dL_pairsFit_271 : decode cL_pairsFit 271 = .ok (.iconst 1, 1) := by decide +kernel
theorem dL_pairsFit_272 : decode cL_pairsFit 272 = .ok (.iload 11, 2) := by decide +kernel
theorem dL_pairsFit_274 : decode cL_pairsFit 274 = .ok (.ishl, 1) := by decide +kernel
theorem dL_pairsFit_275 : decode cL_pairsFit 275 = .ok (.iconst (-1), 1) := by decide +kernel
theorem dL_pairsFit_276 : decode cL_pairsFit 276 = .ok (.ixor, 1) := by decide +kernel
theorem dL_pairsFit_277 : decode cL_pairsFit 277 = .ok (.iand, 1) := by decide +kernel
theorem dL_pairsFit_278 : decode cL_pairsFit 278 = .ok (.istore 9, 2) := by decide +kernel
theorem dL_pairsFit_280 : decode cL_pairsFit 280 = .ok (.iinc 11 1, 3) := by decide +kernel
theorem dL_pairsFit_283 : decode cL_pairsFit 283 = .ok (.goto (-51), 3) := by decide +kernel
theorem dL_pairsFit_286 : decode cL_pairsFit 286 = .ok (.iinc 10 1, 3) := by decide +kernel
theorem dL_pairsFit_289 : decode cL_pairsFit 289 = .ok (.goto (-66), 3) := by decide +kernel
theorem dL_pairsFit_292 : decode cL_pairsFit 292 = .ok (.aload_n 0, 1) := by decide +kernel
theorem dL_pairsFit_293 : decode cL_pairsFit 293 = .ok (.iload_n 1, 1) := by decide +kernel
theorem dL_pairsFit_294 : decode cL_pairsFit 294 = .ok (.iload_n 2, 1) := by decide +kernel
theorem dL_pairsFit_295 : decode cL_pairsFit 295 = .ok (.iload 8, 2) := by decide +kernel
theorem dL_pairsFit_297 : decode cL_pairsFit 297 = .ok (.invokevirtual 50, 3) := by decide +kernel
theorem dL_pairsFit_300 : decode cL_pairsFit 300 = .ok (.iload 9, 2) := by decide +kernel
theorem dL_pairsFit_302 : decode cL_pairsFit 302 = .ok (.if_icmp .ne 7, 3) := by decide +kernel
theorem dL_pairsFit_305 : decode cL_pairsFit 305 = .ok (.iconst 1, 1) := by decide +kernel
theorem dL_pairsFit_306 : decode cL_pairsFit 306 = .ok (.goto 4, 3) := by decide +kernel
theorem dL_pairsFit_309 : decode cL_pairsFit 309 = .ok (.iconst 0, 1) := by decide +kernel
theorem dL_pairsFit_310 : decode cL_pairsFit 310 = .ok (.istore 7, 2) := by decide +kernel
theorem dL_pairsFit_312 : decode cL_pairsFit 312 = .ok (.iinc 8 1, 3) := by decide +kernel
theorem dL_pairsFit_315 : decode cL_pairsFit 315 = .ok (.goto (-111), 3) := by decide +kernel
theorem dL_pairsFit_318 : decode cL_pairsFit 318 = .ok (.iload 7, 2) := by decide +kernel
theorem dL_pairsFit_320 : decode cL_pairsFit 320 = .ok (.ifCond .eq 28, 3) := by decide +kernel
theorem dL_pairsFit_323 : decode cL_pairsFit 323 = .ok (.aload_n 0, 1) := by decide +kernel
theorem dL_pairsFit_324 : decode cL_pairsFit 324 = .ok (.iload_n 1, 1) := by decide +kernel
theorem dL_pairsFit_325 : decode cL_pairsFit 325 = .ok (.iload_n 2, 1) := by decide +kernel
theorem dL_pairsFit_326 : decode cL_pairsFit 326 = .ok (.iconst 3, 1) := by decide +kernel
theorem dL_pairsFit_327 : decode cL_pairsFit 327 = .ok (.invokevirtual 43, 3) := by decide +kernel
theorem dL_pairsFit_330 : decode cL_pairsFit 330 = .ok (.iload 6, 2) := by decide +kernel
theorem dL_pairsFit_332 : decode cL_pairsFit 332 = .ok (.if_icmp .ne 16, 3) := by decide +kernel
theorem dL_pairsFit_335 : decode cL_pairsFit 335 = .ok (.aload_n 0, 1) := by decide +kernel
theorem dL_pairsFit_336 : decode cL_pairsFit 336 = .ok (.iload_n 1, 1) := by decide +kernel
theorem dL_pairsFit_337 : decode cL_pairsFit 337 = .ok (.iload_n 2, 1) := by decide +kernel
theorem dL_pairsFit_338 : decode cL_pairsFit 338 = .ok (.invokestatic 53, 3) := by decide +kernel
theorem dL_pairsFit_341 : decode cL_pairsFit 341 = .ok (.ifCond .eq 7, 3) := by decide +kernel
theorem dL_pairsFit_344 : decode cL_pairsFit 344 = .ok (.iconst 1, 1) := by decide +kernel
theorem dL_pairsFit_345 : decode cL_pairsFit 345 = .ok (.goto 4, 3) := by decide +kernel
theorem dL_pairsFit_348 : decode cL_pairsFit 348 = .ok (.iconst 0, 1) := by decide +kernel
theorem dL_pairsFit_349 : decode cL_pairsFit 349 = .ok (.ireturn, 1) := by decide +kernel
theorem dL_differs_0 : decode cL_differs 0 = .ok (.sipush (-10009), 3) := by decide +kernel
theorem dL_differs_3 : decode cL_differs 3 = .ok (.istore_n 3, 1) := by decide +kernel
theorem dL_differs_4 : decode cL_differs 4 = .ok (.bipush 39, 2) := by decide +kernel
theorem dL_differs_6 : decode cL_differs 6 = .ok (.istore 4, 2) := by decide +kernel
theorem dL_differs_8 : decode cL_differs 8 = .ok (.iload 4, 2) := by decide +kernel
theorem dL_differs_10 : decode cL_differs 10 = .ok (.ifCond .lt 37, 3) := by decide +kernel
theorem dL_differs_13 : decode cL_differs 13 = .ok (.aload_n 0, 1) := by decide +kernel
theorem dL_differs_14 : decode cL_differs 14 = .ok (.iconst 0, 1) := by decide +kernel
theorem dL_differs_15 : decode cL_differs 15 = .ok (.iload_n 1, 1) := by decide +kernel
theorem dL_differs_16 : decode cL_differs 16 = .ok (.iload_n 2, 1) := by decide +kernel
theorem dL_differs_17 : decode cL_differs 17 = .ok (.iload 4, 2) := by decide +kernel
theorem dL_differs_19 : decode cL_differs 19 = .ok (.invokevirtual 40, 3) := by decide +kernel
theorem dL_differs_22 : decode cL_differs 22 = .ok (.aload_n 0, 1) := by decide +kernel
theorem dL_differs_23 : decode cL_differs 23 = .ok (.iconst 1, 1) := by decide +kernel
theorem dL_differs_24 : decode cL_differs 24 = .ok (.iload_n 1, 1) := by decide +kernel
theorem dL_differs_25 : decode cL_differs 25 = .ok (.iload_n 2, 1) := by decide +kernel
theorem dL_differs_26 : decode cL_differs 26 = .ok (.iload 4, 2) := by decide +kernel
theorem dL_differs_28 : decode cL_differs 28 = .ok (.invokevirtual 40, 3) := by decide +kernel
theorem dL_differs_31 : decode cL_differs 31 = .ok (.if_icmp .eq 8, 3) := by decide +kernel
theorem dL_differs_34 : decode cL_differs 34 = .ok (.iload 4, 2) := by decide +kernel
theorem dL_differs_36 : decode cL_differs 36 = .ok (.goto 4, 3) := by decide +kernel
theorem dL_differs_39 : decode cL_differs 39 = .ok (.iload_n 3, 1) := by decide +kernel
theorem dL_differs_40 : decode cL_differs 40 = .ok (.istore_n 3, 1) := by decide +kernel
theorem dL_differs_41 : decode cL_differs 41 = .ok (.iinc 4 (-1), 3) := by decide +kernel
theorem dL_differs_44 : decode cL_differs 44 = .ok (.goto (-36), 3) := by decide +kernel
theorem dL_differs_47 : decode cL_differs 47 = .ok (.aload_n 0, 1) := by decide +kernel
theorem dL_differs_48 : decode cL_differs 48 = .ok (.iload_n 1, 1) := by decide +kernel
theorem dL_differs_49 : decode cL_differs 49 = .ok (.iload_n 2, 1) := by decide +kernel
theorem dL_differs_50 : decode cL_differs 50 = .ok (.invokevirtual 57, 3) := by decide +kernel
theorem dL_differs_53 : decode cL_differs 53 = .ok (.iload_n 3, 1) := by decide +kernel
theorem dL_differs_54 : decode cL_differs 54 = .ok (.if_icmp .ne 7, 3) := by decide +kernel
theorem dL_differs_57 : decode cL_differs 57 = .ok (.iconst 1, 1) := by decide +kernel
theorem dL_differs_58 : decode cL_differs 58 = .ok (.goto 4, 3) := by decide +kernel
theorem dL_differs_61 : decode cL_differs 61 = .ok (.iconst 0, 1) := by decide +kernel
theorem dL_differs_62 : decode cL_differs 62 = .ok (.ireturn, 1) := by decide +kernel
theorem dL_agreesOn_0 : decode cL_agreesOn 0 = .ok (.aload_n 0, 1) := by decide +kernel
theorem dL_agreesOn_1 : decode cL_agreesOn 1 = .ok (.iconst 0, 1) := by decide +kernel
theorem dL_agreesOn_2 : decode cL_agreesOn 2 = .ok (.iload_n 1, 1) := by decide +kernel
theorem dL_agreesOn_3 : decode cL_agreesOn 3 = .ok (.iload_n 2, 1) := by decide +kernel
theorem dL_agreesOn_4 : decode cL_agreesOn 4 = .ok (.iconst 1, 1) := by decide +kernel
theorem dL_agreesOn_5 : decode cL_agreesOn 5 = .ok (.invokevirtual 28, 3) := by decide +kernel
theorem dL_agreesOn_8 : decode cL_agreesOn 8 = .ok (.ifCond .ne 49, 3) := by decide +kernel
theorem dL_agreesOn_11 : decode cL_agreesOn 11 = .ok (.aload_n 0, 1) := by decide +kernel
theorem dL_agreesOn_12 : decode cL_agreesOn 12 = .ok (.iconst 1, 1) := by decide +kernel
theorem dL_agreesOn_13 : decode cL_agreesOn 13 = .ok (.iload_n 1, 1) := by decide +kernel
theorem dL_agreesOn_14 : decode cL_agreesOn 14 = .ok (.iload_n 2, 1) := by decide +kernel
theorem dL_agreesOn_15 : decode cL_agreesOn 15 = .ok (.iconst 1, 1) := by decide +kernel
theorem dL_agreesOn_16 : decode cL_agreesOn 16 = .ok (.invokevirtual 28, 3) := by decide +kernel
theorem dL_agreesOn_19 : decode cL_agreesOn 19 = .ok (.ifCond .ne 38, 3) := by decide +kernel
theorem dL_agreesOn_22 : decode cL_agreesOn 22 = .ok (.aload_n 0, 1) := by decide +kernel
theorem dL_agreesOn_23 : decode cL_agreesOn 23 = .ok (.iconst 0, 1) := by decide +kernel
theorem dL_agreesOn_24 : decode cL_agreesOn 24 = .ok (.iload_n 1, 1) := by decide +kernel
theorem dL_agreesOn_25 : decode cL_agreesOn 25 = .ok (.iload_n 2, 1) := by decide +kernel
theorem dL_agreesOn_26 : decode cL_agreesOn 26 = .ok (.iconst 2, 1) := by decide +kernel
theorem dL_agreesOn_27 : decode cL_agreesOn 27 = .ok (.invokevirtual 28, 3) := by decide +kernel
theorem dL_agreesOn_30 : decode cL_agreesOn 30 = .ok (.aload_n 0, 1) := by decide +kernel
theorem dL_agreesOn_31 : decode cL_agreesOn 31 = .ok (.iconst 1, 1) := by decide +kernel
theorem dL_agreesOn_32 : decode cL_agreesOn 32 = .ok (.iload_n 1, 1) := by decide +kernel
theorem dL_agreesOn_33 : decode cL_agreesOn 33 = .ok (.iload_n 2, 1) := by decide +kernel
theorem dL_agreesOn_34 : decode cL_agreesOn 34 = .ok (.iconst 2, 1) := by decide +kernel
theorem dL_agreesOn_35 : decode cL_agreesOn 35 = .ok (.invokevirtual 28, 3) := by decide +kernel
theorem dL_agreesOn_38 : decode cL_agreesOn 38 = .ok (.if_icmp .ne 19, 3) := by decide +kernel
theorem dL_agreesOn_41 : decode cL_agreesOn 41 = .ok (.aload_n 0, 1) := by decide +kernel
theorem dL_agreesOn_42 : decode cL_agreesOn 42 = .ok (.iload_n 1, 1) := by decide +kernel
theorem dL_agreesOn_43 : decode cL_agreesOn 43 = .ok (.iload_n 2, 1) := by decide +kernel
theorem dL_agreesOn_44 : decode cL_agreesOn 44 = .ok (.invokevirtual 57, 3) := by decide +kernel
theorem dL_agreesOn_47 : decode cL_agreesOn 47 = .ok (.sipush (-10009), 3) := by decide +kernel
theorem dL_agreesOn_50 : decode cL_agreesOn 50 = .ok (.if_icmp .ne 7, 3) := by decide +kernel
theorem dL_agreesOn_53 : decode cL_agreesOn 53 = .ok (.iconst 1, 1) := by decide +kernel
theorem dL_agreesOn_54 : decode cL_agreesOn 54 = .ok (.goto 4, 3) := by decide +kernel
theorem dL_agreesOn_57 : decode cL_agreesOn 57 = .ok (.iconst 0, 1) := by decide +kernel
theorem dL_agreesOn_58 : decode cL_agreesOn 58 = .ok (.ireturn, 1) := by decide +kernel
theorem dL_agreeFits_0 : decode cL_agreeFits 0 = .ok (.iconst 0, 1) := by decide +kernel
theorem dL_agreeFits_1 : decode cL_agreeFits 1 = .ok (.istore_n 2, 1) := by decide +kernel
theorem dL_agreeFits_2 : decode cL_agreeFits 2 = .ok (.sipush (-10009), 3) := by decide +kernel
theorem dL_agreeFits_5 : decode cL_agreeFits 5 = .ok (.istore_n 3, 1) := by decide +kernel
theorem dL_agreeFits_6 : decode cL_agreeFits 6 = .ok (.sipush (-10009), 3) := by decide +kernel
theorem dL_agreeFits_9 : decode cL_agreeFits 9 = .ok (.istore 4, 2) := by decide +kernel
theorem dL_agreeFits_11 : decode cL_agreeFits 11 = .ok (.iconst 3, 1) := by decide +kernel
theorem dL_agreeFits_12 : decode cL_agreeFits 12 = .ok (.istore 5, 2) := by decide +kernel
theorem dL_agreeFits_14 : decode cL_agreeFits 14 = .ok (.iload 5, 2) := by decide +kernel
theorem dL_agreeFits_16 : decode cL_agreeFits 16 = .ok (.ifCond .lt 74, 3) := by decide +kernel
theorem dL_agreeFits_19 : decode cL_agreeFits 19 = .ok (.iload_n 1, 1) := by decide +kernel
theorem dL_agreeFits_20 : decode cL_agreeFits 20 = .ok (.iload 5, 2) := by decide +kernel
theorem dL_agreeFits_22 : decode cL_agreeFits 22 = .ok (.iconst 2, 1) := by decide +kernel
theorem dL_agreeFits_23 : decode cL_agreeFits 23 = .ok (.idiv, 1) := by decide +kernel
theorem dL_agreeFits_24 : decode cL_agreeFits 24 = .ok (.iadd, 1) := by decide +kernel
theorem dL_agreeFits_25 : decode cL_agreeFits 25 = .ok (.istore 6, 2) := by decide +kernel
theorem dL_agreeFits_27 : decode cL_agreeFits 27 = .ok (.iload_n 1, 1) := by decide +kernel
theorem dL_agreeFits_28 : decode cL_agreeFits 28 = .ok (.iload 5, 2) := by decide +kernel
theorem dL_agreeFits_30 : decode cL_agreeFits 30 = .ok (.iconst 2, 1) := by decide +kernel
theorem dL_agreeFits_31 : decode cL_agreeFits 31 = .ok (.irem, 1) := by decide +kernel
theorem dL_agreeFits_32 : decode cL_agreeFits 32 = .ok (.iadd, 1) := by decide +kernel
theorem dL_agreeFits_33 : decode cL_agreeFits 33 = .ok (.istore 7, 2) := by decide +kernel
theorem dL_agreeFits_35 : decode cL_agreeFits 35 = .ok (.aload_n 0, 1) := by decide +kernel
theorem dL_agreeFits_36 : decode cL_agreeFits 36 = .ok (.iload 6, 2) := by decide +kernel
theorem dL_agreeFits_38 : decode cL_agreeFits 38 = .ok (.iload 7, 2) := by decide +kernel
theorem dL_agreeFits_40 : decode cL_agreeFits 40 = .ok (.invokestatic 60, 3) := by decide +kernel
theorem dL_agreeFits_43 : decode cL_agreeFits 43 = .ok (.istore 8, 2) := by decide +kernel
theorem dL_agreeFits_45 : decode cL_agreeFits 45 = .ok (.iload_n 2, 1) := by decide +kernel
theorem dL_agreeFits_46 : decode cL_agreeFits 46 = .ok (.iload 8, 2) := by decide +kernel
theorem dL_agreeFits_48 : decode cL_agreeFits 48 = .ok (.ifCond .eq 7, 3) := by decide +kernel
theorem dL_agreeFits_51 : decode cL_agreeFits 51 = .ok (.iconst 1, 1) := by decide +kernel
theorem dL_agreeFits_52 : decode cL_agreeFits 52 = .ok (.goto 4, 3) := by decide +kernel
theorem dL_agreeFits_55 : decode cL_agreeFits 55 = .ok (.iconst 0, 1) := by decide +kernel
theorem dL_agreeFits_56 : decode cL_agreeFits 56 = .ok (.iadd, 1) := by decide +kernel
theorem dL_agreeFits_57 : decode cL_agreeFits 57 = .ok (.istore_n 2, 1) := by decide +kernel
theorem dL_agreeFits_58 : decode cL_agreeFits 58 = .ok (.iload 8, 2) := by decide +kernel
theorem dL_agreeFits_60 : decode cL_agreeFits 60 = .ok (.ifCond .eq 7, 3) := by decide +kernel
theorem dL_agreeFits_63 : decode cL_agreeFits 63 = .ok (.iload_n 3, 1) := by decide +kernel
theorem dL_agreeFits_64 : decode cL_agreeFits 64 = .ok (.goto 5, 3) := by decide +kernel
theorem dL_agreeFits_67 : decode cL_agreeFits 67 = .ok (.iload 6, 2) := by decide +kernel
theorem dL_agreeFits_69 : decode cL_agreeFits 69 = .ok (.istore_n 3, 1) := by decide +kernel
theorem dL_agreeFits_70 : decode cL_agreeFits 70 = .ok (.iload 8, 2) := by decide +kernel
theorem dL_agreeFits_72 : decode cL_agreeFits 72 = .ok (.ifCond .eq 8, 3) := by decide +kernel
theorem dL_agreeFits_75 : decode cL_agreeFits 75 = .ok (.iload 4, 2) := by decide +kernel
theorem dL_agreeFits_77 : decode cL_agreeFits 77 = .ok (.goto 5, 3) := by decide +kernel
theorem dL_agreeFits_80 : decode cL_agreeFits 80 = .ok (.iload 7, 2) := by decide +kernel
theorem dL_agreeFits_82 : decode cL_agreeFits 82 = .ok (.istore 4, 2) := by decide +kernel
theorem dL_agreeFits_84 : decode cL_agreeFits 84 = .ok (.iinc 5 (-1), 3) := by decide +kernel
theorem dL_agreeFits_87 : decode cL_agreeFits 87 = .ok (.goto (-73), 3) := by decide +kernel
theorem dL_agreeFits_90 : decode cL_agreeFits 90 = .ok (.aload_n 0, 1) := by decide +kernel
theorem dL_agreeFits_91 : decode cL_agreeFits 91 = .ok (.iload_n 1, 1) := by decide +kernel
theorem dL_agreeFits_92 : decode cL_agreeFits 92 = .ok (.iload_n 1, 1) := by decide +kernel
theorem dL_agreeFits_93 : decode cL_agreeFits 93 = .ok (.iconst 1, 1) := by decide +kernel
theorem dL_agreeFits_94 : decode cL_agreeFits 94 = .ok (.iadd, 1) := by decide +kernel
theorem dL_agreeFits_95 : decode cL_agreeFits 95 = .ok (.iconst 0, 1) := by decide +kernel
theorem dL_agreeFits_96 : decode cL_agreeFits 96 = .ok (.invokevirtual 63, 3) := by decide +kernel
theorem dL_agreeFits_99 : decode cL_agreeFits 99 = .ok (.iload_n 2, 1) := by decide +kernel
theorem dL_agreeFits_100 : decode cL_agreeFits 100 = .ok (.if_icmp .ne 34, 3) := by decide +kernel
theorem dL_agreeFits_103 : decode cL_agreeFits 103 = .ok (.aload_n 0, 1) := by decide +kernel
theorem dL_agreeFits_104 : decode cL_agreeFits 104 = .ok (.iload_n 1, 1) := by decide +kernel
theorem dL_agreeFits_105 : decode cL_agreeFits 105 = .ok (.iload_n 1, 1) := by decide +kernel
theorem dL_agreeFits_106 : decode cL_agreeFits 106 = .ok (.iconst 1, 1) := by decide +kernel
theorem dL_agreeFits_107 : decode cL_agreeFits 107 = .ok (.iadd, 1) := by decide +kernel
theorem dL_agreeFits_108 : decode cL_agreeFits 108 = .ok (.iconst 1, 1) := by decide +kernel
theorem dL_agreeFits_109 : decode cL_agreeFits 109 = .ok (.invokevirtual 63, 3) := by decide +kernel
theorem dL_agreeFits_112 : decode cL_agreeFits 112 = .ok (.iload_n 3, 1) := by decide +kernel
theorem dL_agreeFits_113 : decode cL_agreeFits 113 = .ok (.if_icmp .ne 21, 3) := by decide +kernel
theorem dL_agreeFits_116 : decode cL_agreeFits 116 = .ok (.aload_n 0, 1) := by decide +kernel
theorem dL_agreeFits_117 : decode cL_agreeFits 117 = .ok (.iload_n 1, 1) := by decide +kernel
theorem dL_agreeFits_118 : decode cL_agreeFits 118 = .ok (.iload_n 1, 1) := by decide +kernel
theorem dL_agreeFits_119 : decode cL_agreeFits 119 = .ok (.iconst 1, 1) := by decide +kernel
theorem dL_agreeFits_120 : decode cL_agreeFits 120 = .ok (.iadd, 1) := by decide +kernel
theorem dL_agreeFits_121 : decode cL_agreeFits 121 = .ok (.iconst 2, 1) := by decide +kernel
theorem dL_agreeFits_122 : decode cL_agreeFits 122 = .ok (.invokevirtual 63, 3) := by decide +kernel
theorem dL_agreeFits_125 : decode cL_agreeFits 125 = .ok (.iload 4, 2) := by decide +kernel
theorem dL_agreeFits_127 : decode cL_agreeFits 127 = .ok (.if_icmp .ne 7, 3) := by decide +kernel
theorem dL_agreeFits_130 : decode cL_agreeFits 130 = .ok (.iconst 1, 1) := by decide +kernel
theorem dL_agreeFits_131 : decode cL_agreeFits 131 = .ok (.goto 4, 3) := by decide +kernel
theorem dL_agreeFits_134 : decode cL_agreeFits 134 = .ok (.iconst 0, 1) := by decide +kernel
theorem dL_agreeFits_135 : decode cL_agreeFits 135 = .ok (.ireturn, 1) := by decide +kernel
theorem dL_fits_0 : decode cL_fits 0 = .ok (.aload_n 0, 1) := by decide +kernel
theorem dL_fits_1 : decode cL_fits 1 = .ok (.invokestatic 66, 3) := by decide +kernel
theorem dL_fits_4 : decode cL_fits 4 = .ok (.lstore_n 2, 1) := by decide +kernel
theorem dL_fits_5 : decode cL_fits 5 = .ok (.iload_n 1, 1) := by decide +kernel
theorem dL_fits_6 : decode cL_fits 6 = .ok (.iconst 3, 1) := by decide +kernel
theorem dL_fits_7 : decode cL_fits 7 = .ok (.invokestatic 9, 3) := by decide +kernel
theorem dL_fits_10 : decode cL_fits 10 = .ok (.ifCond .ne 19, 3) := by decide +kernel
theorem dL_fits_13 : decode cL_fits 13 = .ok (.iload_n 1, 1) := by decide +kernel
theorem dL_fits_14 : decode cL_fits 14 = .ok (.iconst 5, 1) := by decide +kernel
theorem dL_fits_15 : decode cL_fits 15 = .ok (.ishr, 1) := by decide +kernel
theorem dL_fits_16 : decode cL_fits 16 = .ok (.sipush 1999, 3) := by decide +kernel
theorem dL_fits_19 : decode cL_fits 19 = .ok (.invokestatic 9, 3) := by decide +kernel
theorem dL_fits_22 : decode cL_fits 22 = .ok (.sipush 999, 3) := by decide +kernel
theorem dL_fits_25 : decode cL_fits 25 = .ok (.isub, 1) := by decide +kernel
theorem dL_fits_26 : decode cL_fits 26 = .ok (.goto 13, 3) := by decide +kernel
theorem dL_fits_29 : decode cL_fits 29 = .ok (.iload_n 1, 1) := by decide +kernel
theorem dL_fits_30 : decode cL_fits 30 = .ok (.iconst 5, 1) := by decide +kernel
theorem dL_fits_31 : decode cL_fits 31 = .ok (.ishr, 1) := by decide +kernel
theorem dL_fits_32 : decode cL_fits 32 = .ok (.bipush 9, 2) := by decide +kernel
theorem dL_fits_34 : decode cL_fits 34 = .ok (.invokestatic 9, 3) := by decide +kernel
theorem dL_fits_37 : decode cL_fits 37 = .ok (.iconst 2, 1) := by decide +kernel
theorem dL_fits_38 : decode cL_fits 38 = .ok (.isub, 1) := by decide +kernel
theorem dL_fits_39 : decode cL_fits 39 = .ok (.istore 4, 2) := by decide +kernel
theorem dL_fits_41 : decode cL_fits 41 = .ok (.iload_n 1, 1) := by decide +kernel
theorem dL_fits_42 : decode cL_fits 42 = .ok (.bipush 15, 2) := by decide +kernel
theorem dL_fits_44 : decode cL_fits 44 = .ok (.ishr, 1) := by decide +kernel
theorem dL_fits_45 : decode cL_fits 45 = .ok (.bipush 9, 2) := by decide +kernel
theorem dL_fits_47 : decode cL_fits 47 = .ok (.invokestatic 9, 3) := by decide +kernel
theorem dL_fits_50 : decode cL_fits 50 = .ok (.iconst 3, 1) := by decide +kernel
theorem dL_fits_51 : decode cL_fits 51 = .ok (.isub, 1) := by decide +kernel
theorem dL_fits_52 : decode cL_fits 52 = .ok (.istore 5, 2) := by decide +kernel
theorem dL_fits_54 : decode cL_fits 54 = .ok (.aload_n 0, 1) := by decide +kernel
theorem dL_fits_55 : decode cL_fits 55 = .ok (.iconst 0, 1) := by decide +kernel
theorem dL_fits_56 : decode cL_fits 56 = .ok (.invokestatic 70, 3) := by decide +kernel
theorem dL_fits_59 : decode cL_fits 59 = .ok (.ifCond .eq 66, 3) := by decide +kernel
theorem dL_fits_62 : decode cL_fits 62 = .ok (.aload_n 0, 1) := by decide +kernel
theorem dL_fits_63 : decode cL_fits 63 = .ok (.iconst 1, 1) := by decide +kernel
theorem dL_fits_64 : decode cL_fits 64 = .ok (.invokestatic 70, 3) := by decide +kernel
theorem dL_fits_67 : decode cL_fits 67 = .ok (.ifCond .eq 58, 3) := by decide +kernel
theorem dL_fits_70 : decode cL_fits 70 = .ok (.aload_n 0, 1) := by decide +kernel
theorem dL_fits_71 : decode cL_fits 71 = .ok (.iconst 0, 1) := by decide +kernel
theorem dL_fits_72 : decode cL_fits 72 = .ok (.iload 4, 2) := by decide +kernel
theorem dL_fits_74 : decode cL_fits 74 = .ok (.iload 5, 2) := by decide +kernel
theorem dL_fits_76 : decode cL_fits 76 = .ok (.invokestatic 74, 3) := by decide +kernel
theorem dL_fits_79 : decode cL_fits 79 = .ok (.ifCond .eq 46, 3) := by decide +kernel
theorem dL_fits_82 : decode cL_fits 82 = .ok (.aload_n 0, 1) := by decide +kernel
theorem dL_fits_83 : decode cL_fits 83 = .ok (.iconst 1, 1) := by decide +kernel
theorem dL_fits_84 : decode cL_fits 84 = .ok (.iload 4, 2) := by decide +kernel
theorem dL_fits_86 : decode cL_fits 86 = .ok (.iload 5, 2) := by decide +kernel
theorem dL_fits_88 : decode cL_fits 88 = .ok (.invokestatic 74, 3) := by decide +kernel
theorem dL_fits_91 : decode cL_fits 91 = .ok (.ifCond .eq 34, 3) := by decide +kernel
theorem dL_fits_94 : decode cL_fits 94 = .ok (.aload_n 0, 1) := by decide +kernel
theorem dL_fits_95 : decode cL_fits 95 = .ok (.iload 4, 2) := by decide +kernel
theorem dL_fits_97 : decode cL_fits 97 = .ok (.iload 5, 2) := by decide +kernel
theorem dL_fits_99 : decode cL_fits 99 = .ok (.invokestatic 78, 3) := by decide +kernel
theorem dL_fits_102 : decode cL_fits 102 = .ok (.ifCond .eq 23, 3) := by decide +kernel
theorem dL_fits_105 : decode cL_fits 105 = .ok (.aload_n 0, 1) := by decide +kernel
theorem dL_fits_106 : decode cL_fits 106 = .ok (.iload_n 1, 1) := by decide +kernel
theorem dL_fits_107 : decode cL_fits 107 = .ok (.iconst 3, 1) := by decide +kernel
theorem dL_fits_108 : decode cL_fits 108 = .ok (.ishr, 1) := by decide +kernel
theorem dL_fits_109 : decode cL_fits 109 = .ok (.iconst 5, 1) := by decide +kernel
theorem dL_fits_110 : decode cL_fits 110 = .ok (.invokestatic 9, 3) := by decide +kernel
theorem dL_fits_113 : decode cL_fits 113 = .ok (.iconst 2, 1) := by decide +kernel
theorem dL_fits_114 : decode cL_fits 114 = .ok (.isub, 1) := by decide +kernel
theorem dL_fits_115 : decode cL_fits 115 = .ok (.invokestatic 81, 3) := by decide +kernel
theorem dL_fits_118 : decode cL_fits 118 = .ok (.ifCond .eq 7, 3) := by decide +kernel
theorem dL_fits_121 : decode cL_fits 121 = .ok (.iconst 1, 1) := by decide +kernel
theorem dL_fits_122 : decode cL_fits 122 = .ok (.goto 4, 3) := by decide +kernel
theorem dL_fits_125 : decode cL_fits 125 = .ok (.iconst 0, 1) := by decide +kernel
theorem dL_fits_126 : decode cL_fits 126 = .ok (.istore 6, 2) := by decide +kernel
theorem dL_fits_128 : decode cL_fits 128 = .ok (.iload 6, 2) := by decide +kernel
theorem dL_fits_130 : decode cL_fits 130 = .ok (.ifCond .eq 16, 3) := by decide +kernel
theorem dL_fits_133 : decode cL_fits 133 = .ok (.aload_n 0, 1) := by decide +kernel
theorem dL_fits_134 : decode cL_fits 134 = .ok (.invokestatic 66, 3) := by decide +kernel
theorem dL_fits_137 : decode cL_fits 137 = .ok (.lload_n 2, 1) := by decide +kernel
theorem dL_fits_138 : decode cL_fits 138 = .ok (.lcmp, 1) := by decide +kernel
theorem dL_fits_139 : decode cL_fits 139 = .ok (.ifCond .ne 7, 3) := by decide +kernel
theorem dL_fits_142 : decode cL_fits 142 = .ok (.iconst 1, 1) := by decide +kernel
theorem dL_fits_143 : decode cL_fits 143 = .ok (.goto 4, 3) := by decide +kernel
theorem dL_fits_146 : decode cL_fits 146 = .ok (.iconst 0, 1) := by decide +kernel
theorem dL_fits_147 : decode cL_fits 147 = .ok (.ireturn, 1) := by decide +kernel
theorem dL_types_0 : decode cL_types 0 = .ok (.aload_n 0, 1) := by decide +kernel
theorem dL_types_1 : decode cL_types 1 = .ok (.iload_n 1, 1) := by decide +kernel
theorem dL_types_2 : decode cL_types 2 = .ok (.invokevirtual 84, 3) := by decide +kernel
theorem dL_types_5 : decode cL_types 5 = .ok (.pop, 1) := by decide +kernel
theorem dL_types_6 : decode cL_types 6 = .ok (.aload_n 0, 1) := by decide +kernel
theorem dL_types_7 : decode cL_types 7 = .ok (.iload_n 2, 1) := by decide +kernel
theorem dL_types_8 : decode cL_types 8 = .ok (.invokevirtual 84, 3) := by decide +kernel
theorem dL_types_11 : decode cL_types 11 = .ok (.pop, 1) := by decide +kernel
theorem dL_types_12 : decode cL_types 12 = .ok (.aload_n 0, 1) := by decide +kernel
theorem dL_types_13 : decode cL_types 13 = .ok (.iload_n 3, 1) := by decide +kernel
theorem dL_types_14 : decode cL_types 14 = .ok (.invokevirtual 84, 3) := by decide +kernel
theorem dL_types_17 : decode cL_types 17 = .ok (.pop, 1) := by decide +kernel
theorem dL_types_18 : decode cL_types 18 = .ok (.iload 4, 2) := by decide +kernel
theorem dL_types_20 : decode cL_types 20 = .ok (.ifCond .le 10, 3) := by decide +kernel
theorem dL_types_23 : decode cL_types 23 = .ok (.aload_n 0, 1) := by decide +kernel
theorem dL_types_24 : decode cL_types 24 = .ok (.iload 4, 2) := by decide +kernel
theorem dL_types_26 : decode cL_types 26 = .ok (.invokevirtual 84, 3) := by decide +kernel
theorem dL_types_29 : decode cL_types 29 = .ok (.pop, 1) := by decide +kernel
theorem dL_types_30 : decode cL_types 30 = .ok (.iload 5, 2) := by decide +kernel
theorem dL_types_32 : decode cL_types 32 = .ok (.ifCond .le 17, 3) := by decide +kernel
theorem dL_types_35 : decode cL_types 35 = .ok (.aload_n 0, 1) := by decide +kernel
theorem dL_types_36 : decode cL_types 36 = .ok (.iload 5, 2) := by decide +kernel
theorem dL_types_38 : decode cL_types 38 = .ok (.invokevirtual 84, 3) := by decide +kernel
theorem dL_types_41 : decode cL_types 41 = .ok (.pop, 1) := by decide +kernel
theorem dL_types_42 : decode cL_types 42 = .ok (.aload_n 0, 1) := by decide +kernel
theorem dL_types_43 : decode cL_types 43 = .ok (.iload 6, 2) := by decide +kernel
theorem dL_types_45 : decode cL_types 45 = .ok (.invokevirtual 84, 3) := by decide +kernel
theorem dL_types_48 : decode cL_types 48 = .ok (.pop, 1) := by decide +kernel
theorem dL_types_49 : decode cL_types 49 = .ok (.return_, 1) := by decide +kernel
theorem dL_reads_0 : decode cL_reads 0 = .ok (.aload_n 0, 1) := by decide +kernel
theorem dL_reads_1 : decode cL_reads 1 = .ok (.invokevirtual 87, 3) := by decide +kernel
theorem dL_reads_4 : decode cL_reads 4 = .ok (.pop, 1) := by decide +kernel
theorem dL_reads_5 : decode cL_reads 5 = .ok (.iload_n 1, 1) := by decide +kernel
theorem dL_reads_6 : decode cL_reads 6 = .ok (.istore_n 3, 1) := by decide +kernel
theorem dL_reads_7 : decode cL_reads 7 = .ok (.iconst 0, 1) := by decide +kernel
theorem dL_reads_8 : decode cL_reads 8 = .ok (.istore 4, 2) := by decide +kernel
theorem dL_reads_10 : decode cL_reads 10 = .ok (.iconst 0, 1) := by decide +kernel
theorem dL_reads_11 : decode cL_reads 11 = .ok (.istore 5, 2) := by decide +kernel
theorem dL_reads_13 : decode cL_reads 13 = .ok (.iconst 0, 1) := by decide +kernel
theorem dL_reads_14 : decode cL_reads 14 = .ok (.istore 6, 2) := by decide +kernel
theorem dL_reads_16 : decode cL_reads 16 = .ok (.iload 6, 2) := by decide +kernel
theorem dL_reads_18 : decode cL_reads 18 = .ok (.iconst 2, 1) := by decide +kernel
theorem dL_reads_19 : decode cL_reads 19 = .ok (.iload_n 2, 1) := by decide +kernel
theorem dL_reads_20 : decode cL_reads 20 = .ok (.bipush 8, 2) := by decide +kernel
theorem dL_reads_22 : decode cL_reads 22 = .ok (.invokestatic 9, 3) := by decide +kernel
theorem dL_reads_25 : decode cL_reads 25 = .ok (.iadd, 1) := by decide +kernel
theorem dL_reads_26 : decode cL_reads 26 = .ok (.if_icmp .ge 302, 3) := by decide +kernel
theorem dL_reads_29 : decode cL_reads 29 = .ok (.ldc 91, 2) := by decide +kernel
theorem dL_reads_31 : decode cL_reads 31 = .ok (.iload_n 3, 1) := by decide +kernel
theorem dL_reads_32 : decode cL_reads 32 = .ok (.imul, 1) := by decide +kernel
theorem dL_reads_33 : decode cL_reads 33 = .ok (.sipush 12345, 3) := by decide +kernel
theorem dL_reads_36 : decode cL_reads 36 = .ok (.iadd, 1) := by decide +kernel
theorem dL_reads_37 : decode cL_reads 37 = .ok (.istore_n 3, 1) := by decide +kernel
theorem dL_reads_38 : decode cL_reads 38 = .ok (.bipush 97, 2) := by decide +kernel
theorem dL_reads_40 : decode cL_reads 40 = .ok (.iload_n 3, 1) := by decide +kernel
theorem dL_reads_41 : decode cL_reads 41 = .ok (.bipush 9, 2) := by decide +kernel
theorem dL_reads_43 : decode cL_reads 43 = .ok (.ishr, 1) := by decide +kernel
theorem dL_reads_44 : decode cL_reads 44 = .ok (.bipush 6, 2) := by decide +kernel
theorem dL_reads_46 : decode cL_reads 46 = .ok (.invokestatic 9, 3) := by decide +kernel
theorem dL_reads_49 : decode cL_reads 49 = .ok (.iadd, 1) := by decide +kernel
theorem dL_reads_50 : decode cL_reads 50 = .ok (.istore 7, 2) := by decide +kernel
theorem dL_reads_52 : decode cL_reads 52 = .ok (.bipush 97, 2) := by decide +kernel
theorem dL_reads_54 : decode cL_reads 54 = .ok (.iload_n 3, 1) := by decide +kernel
theorem dL_reads_55 : decode cL_reads 55 = .ok (.bipush 15, 2) := by decide +kernel
theorem dL_reads_57 : decode cL_reads 57 = .ok (.ishr, 1) := by decide +kernel
theorem dL_reads_58 : decode cL_reads 58 = .ok (.bipush 6, 2) := by decide +kernel
theorem dL_reads_60 : decode cL_reads 60 = .ok (.invokestatic 9, 3) := by decide +kernel
theorem dL_reads_63 : decode cL_reads 63 = .ok (.iadd, 1) := by decide +kernel
theorem dL_reads_64 : decode cL_reads 64 = .ok (.istore 8, 2) := by decide +kernel
theorem dL_reads_66 : decode cL_reads 66 = .ok (.iload_n 3, 1) := by decide +kernel
theorem dL_reads_67 : decode cL_reads 67 = .ok (.bipush 20, 2) := by decide +kernel
theorem dL_reads_69 : decode cL_reads 69 = .ok (.ishr, 1) := by decide +kernel
theorem dL_reads_70 : decode cL_reads 70 = .ok (.bipush 8, 2) := by decide +kernel
theorem dL_reads_72 : decode cL_reads 72 = .ok (.invokestatic 9, 3) := by decide +kernel
theorem dL_reads_75 : decode cL_reads 75 = .ok (.tableswitch 194 0 6 #[41, 41, 96, 120, 120, 137, 153], 41) := by decide +kernel
theorem dL_reads_116 : decode cL_reads 116 = .ok (.aload_n 0, 1) := by decide +kernel
theorem dL_reads_117 : decode cL_reads 117 = .ok (.iload 7, 2) := by decide +kernel
theorem dL_reads_119 : decode cL_reads 119 = .ok (.bipush 61, 2) := by decide +kernel
theorem dL_reads_121 : decode cL_reads 121 = .ok (.iload 8, 2) := by decide +kernel
theorem dL_reads_123 : decode cL_reads 123 = .ok (.iload_n 3, 1) := by decide +kernel
theorem dL_reads_124 : decode cL_reads 124 = .ok (.iconst 3, 1) := by decide +kernel
theorem dL_reads_125 : decode cL_reads 125 = .ok (.invokestatic 9, 3) := by decide +kernel
theorem dL_reads_128 : decode cL_reads 128 = .ok (.ifCond .ne 8, 3) := by decide +kernel
theorem dL_reads_131 : decode cL_reads 131 = .ok (.bipush 42, 2) := by decide +kernel
theorem dL_reads_133 : decode cL_reads 133 = .ok (.goto 19, 3) := by decide +kernel
theorem dL_reads_136 : decode cL_reads 136 = .ok (.iload_n 3, 1) := by decide +kernel
theorem dL_reads_137 : decode cL_reads 137 = .ok (.iconst 3, 1) := by decide +kernel
theorem dL_reads_138 : decode cL_reads 138 = .ok (.invokestatic 9, 3) := by decide +kernel
theorem dL_reads_141 : decode cL_reads 141 = .ok (.iconst 1, 1) := by decide +kernel
theorem dL_reads_142 : decode cL_reads 142 = .ok (.if_icmp .ne 8, 3) := by decide +kernel
theorem dL_reads_145 : decode cL_reads 145 = .ok (.bipush 43, 2) := by decide +kernel
theorem dL_reads_147 : decode cL_reads 147 = .ok (.goto 5, 3) := by decide +kernel
theorem dL_reads_150 : decode cL_reads 150 = .ok (.bipush 45, 2) := by decide +kernel
theorem dL_reads_152 : decode cL_reads 152 = .ok (.bipush 48, 2) := by decide +kernel
theorem dL_reads_154 : decode cL_reads 154 = .ok (.iload_n 3, 1) := by decide +kernel
theorem dL_reads_155 : decode cL_reads 155 = .ok (.iconst 3, 1) := by decide +kernel
theorem dL_reads_156 : decode cL_reads 156 = .ok (.ishr, 1) := by decide +kernel
theorem dL_reads_157 : decode cL_reads 157 = .ok (.bipush 10, 2) := by decide +kernel
theorem dL_reads_159 : decode cL_reads 159 = .ok (.invokestatic 9, 3) := by decide +kernel
theorem dL_reads_162 : decode cL_reads 162 = .ok (.iadd, 1) := by decide +kernel
theorem dL_reads_163 : decode cL_reads 163 = .ok (.bipush 59, 2) := by decide +kernel
theorem dL_reads_165 : decode cL_reads 165 = .ok (.invokestatic 92, 3) := by decide +kernel
theorem dL_reads_168 : decode cL_reads 168 = .ok (.goto 154, 3) := by decide +kernel
theorem dL_reads_171 : decode cL_reads 171 = .ok (.aload_n 0, 1) := by decide +kernel
theorem dL_reads_172 : decode cL_reads 172 = .ok (.iload 7, 2) := by decide +kernel
theorem dL_reads_174 : decode cL_reads 174 = .ok (.bipush 61, 2) := by decide +kernel
theorem dL_reads_176 : decode cL_reads 176 = .ok (.bipush 48, 2) := by decide +kernel
theorem dL_reads_178 : decode cL_reads 178 = .ok (.iload_n 3, 1) := by decide +kernel
theorem dL_reads_179 : decode cL_reads 179 = .ok (.bipush 10, 2) := by decide +kernel
theorem dL_reads_181 : decode cL_reads 181 = .ok (.invokestatic 9, 3) := by decide +kernel
theorem dL_reads_184 : decode cL_reads 184 = .ok (.iadd, 1) := by decide +kernel
theorem dL_reads_185 : decode cL_reads 185 = .ok (.bipush 59, 2) := by decide +kernel
theorem dL_reads_187 : decode cL_reads 187 = .ok (.iconst 0, 1) := by decide +kernel
theorem dL_reads_188 : decode cL_reads 188 = .ok (.iconst 0, 1) := by decide +kernel
theorem dL_reads_189 : decode cL_reads 189 = .ok (.invokestatic 92, 3) := by decide +kernel
theorem dL_reads_192 : decode cL_reads 192 = .ok (.goto 130, 3) := by decide +kernel
theorem dL_reads_195 : decode cL_reads 195 = .ok (.aload_n 0, 1) := by decide +kernel
theorem dL_reads_196 : decode cL_reads 196 = .ok (.bipush 33, 2) := by decide +kernel
theorem dL_reads_198 : decode cL_reads 198 = .ok (.bipush 32, 2) := by decide +kernel
theorem dL_reads_200 : decode cL_reads 200 = .ok (.iload 7, 2) := by decide +kernel
theorem dL_reads_202 : decode cL_reads 202 = .ok (.bipush 59, 2) := by decide +kernel
theorem dL_reads_204 : decode cL_reads 204 = .ok (.iconst 0, 1) := by decide +kernel
theorem dL_reads_205 : decode cL_reads 205 = .ok (.iconst 0, 1) := by decide +kernel
theorem dL_reads_206 : decode cL_reads 206 = .ok (.invokestatic 92, 3) := by decide +kernel
theorem dL_reads_209 : decode cL_reads 209 = .ok (.goto 113, 3) := by decide +kernel
theorem dL_reads_212 : decode cL_reads 212 = .ok (.aload_n 0, 1) := by decide +kernel
theorem dL_reads_213 : decode cL_reads 213 = .ok (.bipush 35, 2) := by decide +kernel
theorem dL_reads_215 : decode cL_reads 215 = .ok (.bipush 32, 2) := by decide +kernel
theorem dL_reads_217 : decode cL_reads 217 = .ok (.bipush 59, 2) := by decide +kernel
theorem dL_reads_219 : decode cL_reads 219 = .ok (.iconst 0, 1) := by decide +kernel
theorem dL_reads_220 : decode cL_reads 220 = .ok (.iconst 0, 1) := by decide +kernel
theorem dL_reads_221 : decode cL_reads 221 = .ok (.iconst 0, 1) := by decide +kernel
theorem dL_reads_222 : decode cL_reads 222 = .ok (.invokestatic 92, 3) := by decide +kernel
theorem dL_reads_225 : decode cL_reads 225 = .ok (.goto 97, 3) := by decide +kernel
theorem dL_reads_228 : decode cL_reads 228 = .ok (.iload 4, 2) := by decide +kernel
theorem dL_reads_230 : decode cL_reads 230 = .ok (.iconst 4, 1) := by decide +kernel
theorem dL_reads_231 : decode cL_reads 231 = .ok (.if_icmp .ge 91, 3) := by decide +kernel
theorem dL_reads_234 : decode cL_reads 234 = .ok (.aload_n 0, 1) := by decide +kernel
theorem dL_reads_235 : decode cL_reads 235 = .ok (.bipush 91, 2) := by decide +kernel
theorem dL_reads_237 : decode cL_reads 237 = .ok (.iload 7, 2) := by decide +kernel
theorem dL_reads_239 : decode cL_reads 239 = .ok (.bipush 32, 2) := by decide +kernel
theorem dL_reads_241 : decode cL_reads 241 = .ok (.iconst 0, 1) := by decide +kernel
theorem dL_reads_242 : decode cL_reads 242 = .ok (.iconst 0, 1) := by decide +kernel
theorem dL_reads_243 : decode cL_reads 243 = .ok (.iconst 0, 1) := by decide +kernel
theorem dL_reads_244 : decode cL_reads 244 = .ok (.invokestatic 92, 3) := by decide +kernel
theorem dL_reads_247 : decode cL_reads 247 = .ok (.aload_n 0, 1) := by decide +kernel
theorem dL_reads_248 : decode cL_reads 248 = .ok (.iload 7, 2) := by decide +kernel
theorem dL_reads_250 : decode cL_reads 250 = .ok (.bipush 61, 2) := by decide +kernel
theorem dL_reads_252 : decode cL_reads 252 = .ok (.iload 7, 2) := by decide +kernel
theorem dL_reads_254 : decode cL_reads 254 = .ok (.bipush 45, 2) := by decide +kernel
theorem dL_reads_256 : decode cL_reads 256 = .ok (.bipush 49, 2) := by decide +kernel
theorem dL_reads_258 : decode cL_reads 258 = .ok (.bipush 59, 2) := by decide +kernel
theorem dL_reads_260 : decode cL_reads 260 = .ok (.invokestatic 92, 3) := by decide +kernel
theorem dL_reads_263 : decode cL_reads 263 = .ok (.iinc 4 1, 3) := by decide +kernel
theorem dL_reads_266 : decode cL_reads 266 = .ok (.goto 56, 3) := by decide +kernel
theorem dL_reads_269 : decode cL_reads 269 = .ok (.iload 4, 2) := by decide +kernel
theorem dL_reads_271 : decode cL_reads 271 = .ok (.ifCond .le 22, 3) := by decide +kernel
theorem dL_reads_274 : decode cL_reads 274 = .ok (.aload_n 0, 1) := by decide +kernel
theorem dL_reads_275 : decode cL_reads 275 = .ok (.bipush 32, 2) := by decide +kernel
theorem dL_reads_277 : decode cL_reads 277 = .ok (.bipush 93, 2) := by decide +kernel
theorem dL_reads_279 : decode cL_reads 279 = .ok (.bipush 32, 2) := by decide +kernel
theorem dL_reads_281 : decode cL_reads 281 = .ok (.iconst 0, 1) := by decide +kernel
theorem dL_reads_282 : decode cL_reads 282 = .ok (.iconst 0, 1) := by decide +kernel
theorem dL_reads_283 : decode cL_reads 283 = .ok (.iconst 0, 1) := by decide +kernel
theorem dL_reads_284 : decode cL_reads 284 = .ok (.invokestatic 92, 3) := by decide +kernel
theorem dL_reads_287 : decode cL_reads 287 = .ok (.iinc 4 (-1), 3) := by decide +kernel
theorem dL_reads_290 : decode cL_reads 290 = .ok (.goto 32, 3) := by decide +kernel
theorem dL_reads_293 : decode cL_reads 293 = .ok (.aload_n 0, 1) := by decide +kernel
theorem dL_reads_294 : decode cL_reads 294 = .ok (.bipush 63, 2) := by decide +kernel
theorem dL_reads_296 : decode cL_reads 296 = .ok (.iload 7, 2) := by decide +kernel
theorem dL_reads_298 : decode cL_reads 298 = .ok (.bipush 33, 2) := by decide +kernel
theorem dL_reads_300 : decode cL_reads 300 = .ok (.iload 8, 2) := by decide +kernel
theorem dL_reads_302 : decode cL_reads 302 = .ok (.bipush 59, 2) := by decide +kernel
theorem dL_reads_304 : decode cL_reads 304 = .ok (.bipush 58, 2) := by decide +kernel
theorem dL_reads_306 : decode cL_reads 306 = .ok (.invokestatic 92, 3) := by decide +kernel
theorem dL_reads_309 : decode cL_reads 309 = .ok (.aload_n 0, 1) := by decide +kernel
theorem dL_reads_310 : decode cL_reads 310 = .ok (.bipush 46, 2) := by decide +kernel
theorem dL_reads_312 : decode cL_reads 312 = .ok (.bipush 32, 2) := by decide +kernel
theorem dL_reads_314 : decode cL_reads 314 = .ok (.bipush 32, 2) := by decide +kernel
theorem dL_reads_316 : decode cL_reads 316 = .ok (.iconst 0, 1) := by decide +kernel
theorem dL_reads_317 : decode cL_reads 317 = .ok (.iconst 0, 1) := by decide +kernel
theorem dL_reads_318 : decode cL_reads 318 = .ok (.iconst 0, 1) := by decide +kernel
theorem dL_reads_319 : decode cL_reads 319 = .ok (.invokestatic 92, 3) := by decide +kernel
theorem dL_reads_322 : decode cL_reads 322 = .ok (.iinc 6 1, 3) := by decide +kernel
theorem dL_reads_325 : decode cL_reads 325 = .ok (.goto (-309), 3) := by decide +kernel
theorem dL_reads_328 : decode cL_reads 328 = .ok (.iconst 0, 1) := by decide +kernel
theorem dL_reads_329 : decode cL_reads 329 = .ok (.istore 6, 2) := by decide +kernel
theorem dL_reads_331 : decode cL_reads 331 = .ok (.iload 6, 2) := by decide +kernel
theorem dL_reads_333 : decode cL_reads 333 = .ok (.iload 4, 2) := by decide +kernel
theorem dL_reads_335 : decode cL_reads 335 = .ok (.if_icmp .ge 22, 3) := by decide +kernel
theorem dL_reads_338 : decode cL_reads 338 = .ok (.aload_n 0, 1) := by decide +kernel
theorem dL_reads_339 : decode cL_reads 339 = .ok (.bipush 93, 2) := by decide +kernel
theorem dL_reads_341 : decode cL_reads 341 = .ok (.bipush 32, 2) := by decide +kernel
theorem dL_reads_343 : decode cL_reads 343 = .ok (.bipush 32, 2) := by decide +kernel
theorem dL_reads_345 : decode cL_reads 345 = .ok (.iconst 0, 1) := by decide +kernel
theorem dL_reads_346 : decode cL_reads 346 = .ok (.iconst 0, 1) := by decide +kernel
theorem dL_reads_347 : decode cL_reads 347 = .ok (.iconst 0, 1) := by decide +kernel
theorem dL_reads_348 : decode cL_reads 348 = .ok (.invokestatic 92, 3) := by decide +kernel
theorem dL_reads_351 : decode cL_reads 351 = .ok (.iinc 6 1, 3) := by decide +kernel
theorem dL_reads_354 : decode cL_reads 354 = .ok (.goto (-23), 3) := by decide +kernel
theorem dL_reads_357 : decode cL_reads 357 = .ok (.iload_n 2, 1) := by decide +kernel
theorem dL_reads_358 : decode cL_reads 358 = .ok (.iconst 5, 1) := by decide +kernel
theorem dL_reads_359 : decode cL_reads 359 = .ok (.ishr, 1) := by decide +kernel
theorem dL_reads_360 : decode cL_reads 360 = .ok (.bipush 9, 2) := by decide +kernel
theorem dL_reads_362 : decode cL_reads 362 = .ok (.invokestatic 9, 3) := by decide +kernel
theorem dL_reads_365 : decode cL_reads 365 = .ok (.ifCond .ne 19, 3) := by decide +kernel
theorem dL_reads_368 : decode cL_reads 368 = .ok (.aload_n 0, 1) := by decide +kernel
theorem dL_reads_369 : decode cL_reads 369 = .ok (.bipush 93, 2) := by decide +kernel
theorem dL_reads_371 : decode cL_reads 371 = .ok (.bipush 32, 2) := by decide +kernel
theorem dL_reads_373 : decode cL_reads 373 = .ok (.bipush 32, 2) := by decide +kernel
theorem dL_reads_375 : decode cL_reads 375 = .ok (.iconst 0, 1) := by decide +kernel
theorem dL_reads_376 : decode cL_reads 376 = .ok (.iconst 0, 1) := by decide +kernel
theorem dL_reads_377 : decode cL_reads 377 = .ok (.iconst 0, 1) := by decide +kernel
theorem dL_reads_378 : decode cL_reads 378 = .ok (.invokestatic 92, 3) := by decide +kernel
theorem dL_reads_381 : decode cL_reads 381 = .ok (.iconst 1, 1) := by decide +kernel
theorem dL_reads_382 : decode cL_reads 382 = .ok (.istore 5, 2) := by decide +kernel
theorem dL_reads_384 : decode cL_reads 384 = .ok (.aload_n 0, 1) := by decide +kernel
theorem dL_reads_385 : decode cL_reads 385 = .ok (.iconst 3, 1) := by decide +kernel
theorem dL_reads_386 : decode cL_reads 386 = .ok (.invokevirtual 19, 3) := by decide +kernel
theorem dL_reads_389 : decode cL_reads 389 = .ok (.istore 6, 2) := by decide +kernel
theorem dL_reads_391 : decode cL_reads 391 = .ok (.aload_n 0, 1) := by decide +kernel
theorem dL_reads_392 : decode cL_reads 392 = .ok (.iload_n 2, 1) := by decide +kernel
theorem dL_reads_393 : decode cL_reads 393 = .ok (.bipush 9, 2) := by decide +kernel
theorem dL_reads_395 : decode cL_reads 395 = .ok (.ishr, 1) := by decide +kernel
theorem dL_reads_396 : decode cL_reads 396 = .ok (.iconst 2, 1) := by decide +kernel
theorem dL_reads_397 : decode cL_reads 397 = .ok (.invokestatic 96, 3) := by decide +kernel
theorem dL_reads_400 : decode cL_reads 400 = .ok (.invokevirtual 99, 3) := by decide +kernel
theorem dL_reads_403 : decode cL_reads 403 = .ok (.istore 7, 2) := by decide +kernel
theorem dL_reads_405 : decode cL_reads 405 = .ok (.iload 5, 2) := by decide +kernel
theorem dL_reads_407 : decode cL_reads 407 = .ok (.iconst 1, 1) := by decide +kernel
theorem dL_reads_408 : decode cL_reads 408 = .ok (.if_icmp .eq 10, 3) := by decide +kernel
theorem dL_reads_411 : decode cL_reads 411 = .ok (.iload 6, 2) := by decide +kernel
theorem dL_reads_413 : decode cL_reads 413 = .ok (.bipush 120, 2) := by decide +kernel
theorem dL_reads_415 : decode cL_reads 415 = .ok (.if_icmp .ne 7, 3) := by decide +kernel
theorem dL_reads_418 : decode cL_reads 418 = .ok (.iconst 1, 1) := by decide +kernel
theorem dL_reads_419 : decode cL_reads 419 = .ok (.goto 4, 3) := by decide +kernel
theorem dL_reads_422 : decode cL_reads 422 = .ok (.iconst 0, 1) := by decide +kernel
theorem dL_reads_423 : decode cL_reads 423 = .ok (.istore 8, 2) := by decide +kernel
theorem dL_reads_425 : decode cL_reads 425 = .ok (.iload 7, 2) := by decide +kernel
theorem dL_reads_427 : decode cL_reads 427 = .ok (.sipush (-1000), 3) := by decide +kernel
theorem dL_reads_430 : decode cL_reads 430 = .ok (.if_icmp .gt 20, 3) := by decide +kernel
theorem dL_reads_433 : decode cL_reads 433 = .ok (.iload 7, 2) := by decide +kernel
theorem dL_reads_435 : decode cL_reads 435 = .ok (.sipush (-1120), 3) := by decide +kernel
theorem dL_reads_438 : decode cL_reads 438 = .ok (.if_icmp .lt 12, 3) := by decide +kernel
theorem dL_reads_441 : decode cL_reads 441 = .ok (.iload 8, 2) := by decide +kernel
theorem dL_reads_443 : decode cL_reads 443 = .ok (.ifCond .ne 7, 3) := by decide +kernel
theorem dL_reads_446 : decode cL_reads 446 = .ok (.iconst 1, 1) := by decide +kernel
theorem dL_reads_447 : decode cL_reads 447 = .ok (.goto 13, 3) := by decide +kernel
theorem dL_reads_450 : decode cL_reads 450 = .ok (.iload 7, 2) := by decide +kernel
theorem dL_reads_452 : decode cL_reads 452 = .ok (.ifCond .ge 7, 3) := by decide +kernel
theorem dL_reads_455 : decode cL_reads 455 = .ok (.iconst (-1), 1) := by decide +kernel
theorem dL_reads_456 : decode cL_reads 456 = .ok (.goto 4, 3) := by decide +kernel
theorem dL_reads_459 : decode cL_reads 459 = .ok (.iconst 0, 1) := by decide +kernel
theorem dL_reads_460 : decode cL_reads 460 = .ok (.ireturn, 1) := by decide +kernel
theorem dL_goes_0 : decode cL_goes 0 = .ok (.iload_n 1, 1) := by decide +kernel
theorem dL_goes_1 : decode cL_goes 1 = .ok (.bipush 7, 2) := by decide +kernel
theorem dL_goes_3 : decode cL_goes 3 = .ok (.invokestatic 9, 3) := by decide +kernel
theorem dL_goes_6 : decode cL_goes 6 = .ok (.tableswitch 258 0 5 #[38, 38, 38, 47, 99, 136], 38) := by decide +kernel
theorem dL_goes_44 : decode cL_goes 44 = .ok (.aload_n 0, 1) := by decide +kernel
theorem dL_goes_45 : decode cL_goes 45 = .ok (.iload_n 1, 1) := by decide +kernel
theorem dL_goes_46 : decode cL_goes 46 = .ok (.iconst 3, 1) := by decide +kernel
theorem dL_goes_47 : decode cL_goes 47 = .ok (.ishr, 1) := by decide +kernel
theorem dL_goes_48 : decode cL_goes 48 = .ok (.iload_n 2, 1) := by decide +kernel
theorem dL_goes_49 : decode cL_goes 49 = .ok (.invokestatic 102, 3) := by decide +kernel
theorem dL_goes_52 : decode cL_goes 52 = .ok (.ireturn, 1) := by decide +kernel
theorem dL_goes_53 : decode cL_goes 53 = .ok (.aload_n 0, 1) := by decide +kernel
theorem dL_goes_54 : decode cL_goes 54 = .ok (.invokevirtual 106, 3) := by decide +kernel
theorem dL_goes_57 : decode cL_goes 57 = .ok (.aload_n 0, 1) := by decide +kernel
theorem dL_goes_58 : decode cL_goes 58 = .ok (.iconst 0, 1) := by decide +kernel
theorem dL_goes_59 : decode cL_goes 59 = .ok (.invokevirtual 19, 3) := by decide +kernel
theorem dL_goes_62 : decode cL_goes 62 = .ok (.if_icmp .ne 41, 3) := by decide +kernel
theorem dL_goes_65 : decode cL_goes 65 = .ok (.aload_n 0, 1) := by decide +kernel
theorem dL_goes_66 : decode cL_goes 66 = .ok (.iload_n 2, 1) := by decide +kernel
theorem dL_goes_67 : decode cL_goes 67 = .ok (.bipush 9, 2) := by decide +kernel
theorem dL_goes_69 : decode cL_goes 69 = .ok (.invokestatic 9, 3) := by decide +kernel
theorem dL_goes_72 : decode cL_goes 72 = .ok (.iconst 2, 1) := by decide +kernel
theorem dL_goes_73 : decode cL_goes 73 = .ok (.invokevirtual 57, 3) := by decide +kernel
theorem dL_goes_76 : decode cL_goes 76 = .ok (.sipush (-10009), 3) := by decide +kernel
theorem dL_goes_79 : decode cL_goes 79 = .ok (.if_icmp .ne 24, 3) := by decide +kernel
theorem dL_goes_82 : decode cL_goes 82 = .ok (.aload_n 0, 1) := by decide +kernel
theorem dL_goes_83 : decode cL_goes 83 = .ok (.iconst 0, 1) := by decide +kernel
theorem dL_goes_84 : decode cL_goes 84 = .ok (.bipush 7, 2) := by decide +kernel
theorem dL_goes_86 : decode cL_goes 86 = .ok (.invokevirtual 25, 3) := by decide +kernel
theorem dL_goes_89 : decode cL_goes 89 = .ok (.aload_n 0, 1) := by decide +kernel
theorem dL_goes_90 : decode cL_goes 90 = .ok (.iconst 1, 1) := by decide +kernel
theorem dL_goes_91 : decode cL_goes 91 = .ok (.bipush 7, 2) := by decide +kernel
theorem dL_goes_93 : decode cL_goes 93 = .ok (.invokevirtual 25, 3) := by decide +kernel
theorem dL_goes_96 : decode cL_goes 96 = .ok (.if_icmp .ne 7, 3) := by decide +kernel
theorem dL_goes_99 : decode cL_goes 99 = .ok (.iconst 0, 1) := by decide +kernel
theorem dL_goes_100 : decode cL_goes 100 = .ok (.goto 4, 3) := by decide +kernel
theorem dL_goes_103 : decode cL_goes 103 = .ok (.iconst 1, 1) := by decide +kernel
theorem dL_goes_104 : decode cL_goes 104 = .ok (.ireturn, 1) := by decide +kernel
theorem dL_goes_105 : decode cL_goes 105 = .ok (.aload_n 0, 1) := by decide +kernel
theorem dL_goes_106 : decode cL_goes 106 = .ok (.iconst 0, 1) := by decide +kernel
theorem dL_goes_107 : decode cL_goes 107 = .ok (.invokevirtual 19, 3) := by decide +kernel
theorem dL_goes_110 : decode cL_goes 110 = .ok (.istore_n 3, 1) := by decide +kernel
theorem dL_goes_111 : decode cL_goes 111 = .ok (.aload_n 0, 1) := by decide +kernel
theorem dL_goes_112 : decode cL_goes 112 = .ok (.iconst 1, 1) := by decide +kernel
theorem dL_goes_113 : decode cL_goes 113 = .ok (.invokevirtual 19, 3) := by decide +kernel
theorem dL_goes_116 : decode cL_goes 116 = .ok (.istore 4, 2) := by decide +kernel
theorem dL_goes_118 : decode cL_goes 118 = .ok (.aload_n 0, 1) := by decide +kernel
theorem dL_goes_119 : decode cL_goes 119 = .ok (.invokevirtual 109, 3) := by decide +kernel
theorem dL_goes_122 : decode cL_goes 122 = .ok (.iload 4, 2) := by decide +kernel
theorem dL_goes_124 : decode cL_goes 124 = .ok (.if_icmp .ne 16, 3) := by decide +kernel
theorem dL_goes_127 : decode cL_goes 127 = .ok (.aload_n 0, 1) := by decide +kernel
theorem dL_goes_128 : decode cL_goes 128 = .ok (.iconst 1, 1) := by decide +kernel
theorem dL_goes_129 : decode cL_goes 129 = .ok (.invokevirtual 19, 3) := by decide +kernel
theorem dL_goes_132 : decode cL_goes 132 = .ok (.iload_n 3, 1) := by decide +kernel
theorem dL_goes_133 : decode cL_goes 133 = .ok (.if_icmp .ne 7, 3) := by decide +kernel
theorem dL_goes_136 : decode cL_goes 136 = .ok (.iconst 0, 1) := by decide +kernel
theorem dL_goes_137 : decode cL_goes 137 = .ok (.goto 4, 3) := by decide +kernel
theorem dL_goes_140 : decode cL_goes 140 = .ok (.iconst 1, 1) := by decide +kernel
theorem dL_goes_141 : decode cL_goes 141 = .ok (.ireturn, 1) := by decide +kernel
theorem dL_goes_142 : decode cL_goes 142 = .ok (.iload_n 2, 1) := by decide +kernel
theorem dL_goes_143 : decode cL_goes 143 = .ok (.iconst 2, 1) := by decide +kernel
theorem dL_goes_144 : decode cL_goes 144 = .ok (.invokestatic 96, 3) := by decide +kernel
theorem dL_goes_147 : decode cL_goes 147 = .ok (.istore_n 3, 1) := by decide +kernel
theorem dL_goes_148 : decode cL_goes 148 = .ok (.iload_n 3, 1) := by decide +kernel
theorem dL_goes_149 : decode cL_goes 149 = .ok (.ifCond .eq 8, 3) := by decide +kernel
theorem dL_goes_152 : decode cL_goes 152 = .ok (.iload_n 3, 1) := by decide +kernel
theorem dL_goes_153 : decode cL_goes 153 = .ok (.iconst 1, 1) := by decide +kernel
theorem dL_goes_154 : decode cL_goes 154 = .ok (.if_icmp .ne 11, 3) := by decide +kernel
theorem dL_goes_157 : decode cL_goes 157 = .ok (.aload_n 0, 1) := by decide +kernel
theorem dL_goes_158 : decode cL_goes 158 = .ok (.iload_n 3, 1) := by decide +kernel
theorem dL_goes_159 : decode cL_goes 159 = .ok (.invokevirtual 19, 3) := by decide +kernel
theorem dL_goes_162 : decode cL_goes 162 = .ok (.goto 4, 3) := by decide +kernel
theorem dL_goes_165 : decode cL_goes 165 = .ok (.iconst 0, 1) := by decide +kernel
theorem dL_goes_166 : decode cL_goes 166 = .ok (.istore 4, 2) := by decide +kernel
theorem dL_goes_168 : decode cL_goes 168 = .ok (.iload_n 2, 1) := by decide +kernel
theorem dL_goes_169 : decode cL_goes 169 = .ok (.iconst 3, 1) := by decide +kernel
theorem dL_goes_170 : decode cL_goes 170 = .ok (.ishr, 1) := by decide +kernel
theorem dL_goes_171 : decode cL_goes 171 = .ok (.iload 4, 2) := by decide +kernel
theorem dL_goes_173 : decode cL_goes 173 = .ok (.invokestatic 96, 3) := by decide +kernel
theorem dL_goes_176 : decode cL_goes 176 = .ok (.istore 5, 2) := by decide +kernel
theorem dL_goes_178 : decode cL_goes 178 = .ok (.iload_n 3, 1) := by decide +kernel
theorem dL_goes_179 : decode cL_goes 179 = .ok (.ifCond .eq 8, 3) := by decide +kernel
theorem dL_goes_182 : decode cL_goes 182 = .ok (.iload_n 3, 1) := by decide +kernel
theorem dL_goes_183 : decode cL_goes 183 = .ok (.iconst 1, 1) := by decide +kernel
theorem dL_goes_184 : decode cL_goes 184 = .ok (.if_icmp .ne 19, 3) := by decide +kernel
theorem dL_goes_187 : decode cL_goes 187 = .ok (.iload 5, 2) := by decide +kernel
theorem dL_goes_189 : decode cL_goes 189 = .ok (.ifCond .lt 14, 3) := by decide +kernel
theorem dL_goes_192 : decode cL_goes 192 = .ok (.iload 5, 2) := by decide +kernel
theorem dL_goes_194 : decode cL_goes 194 = .ok (.iload 4, 2) := by decide +kernel
theorem dL_goes_196 : decode cL_goes 196 = .ok (.if_icmp .ge 7, 3) := by decide +kernel
theorem dL_goes_199 : decode cL_goes 199 = .ok (.iconst 1, 1) := by decide +kernel
theorem dL_goes_200 : decode cL_goes 200 = .ok (.goto 4, 3) := by decide +kernel
theorem dL_goes_203 : decode cL_goes 203 = .ok (.iconst 0, 1) := by decide +kernel
theorem dL_goes_204 : decode cL_goes 204 = .ok (.istore 6, 2) := by decide +kernel
theorem dL_goes_206 : decode cL_goes 206 = .ok (.aload_n 0, 1) := by decide +kernel
theorem dL_goes_207 : decode cL_goes 207 = .ok (.iload_n 3, 1) := by decide +kernel
theorem dL_goes_208 : decode cL_goes 208 = .ok (.iload 5, 2) := by decide +kernel
theorem dL_goes_210 : decode cL_goes 210 = .ok (.invokevirtual 112, 3) := by decide +kernel
theorem dL_goes_213 : decode cL_goes 213 = .ok (.istore 7, 2) := by decide +kernel
theorem dL_goes_215 : decode cL_goes 215 = .ok (.iload 6, 2) := by decide +kernel
theorem dL_goes_217 : decode cL_goes 217 = .ok (.ifCond .ne 19, 3) := by decide +kernel
theorem dL_goes_220 : decode cL_goes 220 = .ok (.iload 7, 2) := by decide +kernel
theorem dL_goes_222 : decode cL_goes 222 = .ok (.sipush (-10001), 3) := by decide +kernel
theorem dL_goes_225 : decode cL_goes 225 = .ok (.if_icmp .ne 7, 3) := by decide +kernel
theorem dL_goes_228 : decode cL_goes 228 = .ok (.iconst (-1), 1) := by decide +kernel
theorem dL_goes_229 : decode cL_goes 229 = .ok (.goto 34, 3) := by decide +kernel
theorem dL_goes_232 : decode cL_goes 232 = .ok (.iconst 1, 1) := by decide +kernel
theorem dL_goes_233 : decode cL_goes 233 = .ok (.goto 30, 3) := by decide +kernel
theorem dL_goes_236 : decode cL_goes 236 = .ok (.iload 7, 2) := by decide +kernel
theorem dL_goes_238 : decode cL_goes 238 = .ok (.ifCond .lt 24, 3) := by decide +kernel
theorem dL_goes_241 : decode cL_goes 241 = .ok (.iload 7, 2) := by decide +kernel
theorem dL_goes_243 : decode cL_goes 243 = .ok (.iload 4, 2) := by decide +kernel
theorem dL_goes_245 : decode cL_goes 245 = .ok (.if_icmp .ge 17, 3) := by decide +kernel
theorem dL_goes_248 : decode cL_goes 248 = .ok (.iload 7, 2) := by decide +kernel
theorem dL_goes_250 : decode cL_goes 250 = .ok (.aload_n 0, 1) := by decide +kernel
theorem dL_goes_251 : decode cL_goes 251 = .ok (.iload_n 3, 1) := by decide +kernel
theorem dL_goes_252 : decode cL_goes 252 = .ok (.invokevirtual 19, 3) := by decide +kernel
theorem dL_goes_255 : decode cL_goes 255 = .ok (.if_icmp .ne 7, 3) := by decide +kernel
theorem dL_goes_258 : decode cL_goes 258 = .ok (.iconst 0, 1) := by decide +kernel
theorem dL_goes_259 : decode cL_goes 259 = .ok (.goto 4, 3) := by decide +kernel
theorem dL_goes_262 : decode cL_goes 262 = .ok (.iconst 1, 1) := by decide +kernel
theorem dL_goes_263 : decode cL_goes 263 = .ok (.ireturn, 1) := by decide +kernel
theorem dL_goes_264 : decode cL_goes 264 = .ok (.aload_n 0, 1) := by decide +kernel
theorem dL_goes_265 : decode cL_goes 265 = .ok (.iload_n 2, 1) := by decide +kernel
theorem dL_goes_266 : decode cL_goes 266 = .ok (.sipush 256, 3) := by decide +kernel
theorem dL_goes_269 : decode cL_goes 269 = .ok (.invokestatic 96, 3) := by decide +kernel
theorem dL_goes_272 : decode cL_goes 272 = .ok (.invokevirtual 84, 3) := by decide +kernel
theorem dL_goes_275 : decode cL_goes 275 = .ok (.ifCond .ge 7, 3) := by decide +kernel
theorem dL_goes_278 : decode cL_goes 278 = .ok (.iconst (-1), 1) := by decide +kernel
theorem dL_goes_279 : decode cL_goes 279 = .ok (.goto 5, 3) := by decide +kernel
theorem dL_goes_282 : decode cL_goes 282 = .ok (.bipush (-2), 2) := by decide +kernel
theorem dL_goes_284 : decode cL_goes 284 = .ok (.ireturn, 1) := by decide +kernel
theorem dL_law_0 : decode cL_law 0 = .ok (.new 20, 3) := by decide +kernel
theorem dL_law_3 : decode cL_law 3 = .ok (.dup, 1) := by decide +kernel
theorem dL_law_4 : decode cL_law 4 = .ok (.invokespecial 115, 3) := by decide +kernel
theorem dL_law_7 : decode cL_law 7 = .ok (.astore_n 1, 1) := by decide +kernel
theorem dL_law_8 : decode cL_law 8 = .ok (.aload_n 1, 1) := by decide +kernel
theorem dL_law_9 : decode cL_law 9 = .ok (.iconst 0, 1) := by decide +kernel
theorem dL_law_10 : decode cL_law 10 = .ok (.invokestatic 116, 3) := by decide +kernel
theorem dL_law_13 : decode cL_law 13 = .ok (.istore_n 2, 1) := by decide +kernel
theorem dL_law_14 : decode cL_law 14 = .ok (.iconst 0, 1) := by decide +kernel
theorem dL_law_15 : decode cL_law 15 = .ok (.istore_n 3, 1) := by decide +kernel
theorem dL_law_16 : decode cL_law 16 = .ok (.iload_n 3, 1) := by decide +kernel
theorem dL_law_17 : decode cL_law 17 = .ok (.bipush 9, 2) := by decide +kernel
theorem dL_law_19 : decode cL_law 19 = .ok (.if_icmp .ge 166, 3) := by decide +kernel
theorem dL_law_22 : decode cL_law 22 = .ok (.iload_n 2, 1) := by decide +kernel
theorem dL_law_23 : decode cL_law 23 = .ok (.ifCond .eq 162, 3) := by decide +kernel
theorem dL_law_26 : decode cL_law 26 = .ok (.aload_n 0, 1) := by decide +kernel
theorem dL_law_27 : decode cL_law 27 = .ok (.iconst 2, 1) := by decide +kernel
theorem dL_law_28 : decode cL_law 28 = .ok (.iload_n 3, 1) := by decide +kernel
theorem dL_law_29 : decode cL_law 29 = .ok (.imul, 1) := by decide +kernel
theorem dL_law_30 : decode cL_law 30 = .ok (.invokestatic 119, 3) := by decide +kernel
theorem dL_law_33 : decode cL_law 33 = .ok (.istore 4, 2) := by decide +kernel
theorem dL_law_35 : decode cL_law 35 = .ok (.aload_n 0, 1) := by decide +kernel
theorem dL_law_36 : decode cL_law 36 = .ok (.iconst 2, 1) := by decide +kernel
theorem dL_law_37 : decode cL_law 37 = .ok (.iload_n 3, 1) := by decide +kernel
theorem dL_law_38 : decode cL_law 38 = .ok (.imul, 1) := by decide +kernel
theorem dL_law_39 : decode cL_law 39 = .ok (.iconst 1, 1) := by decide +kernel
theorem dL_law_40 : decode cL_law 40 = .ok (.iadd, 1) := by decide +kernel
theorem dL_law_41 : decode cL_law 41 = .ok (.invokestatic 119, 3) := by decide +kernel
theorem dL_law_44 : decode cL_law 44 = .ok (.istore 5, 2) := by decide +kernel
theorem dL_law_46 : decode cL_law 46 = .ok (.aload_n 1, 1) := by decide +kernel
theorem dL_law_47 : decode cL_law 47 = .ok (.invokestatic 66, 3) := by decide +kernel
theorem dL_law_50 : decode cL_law 50 = .ok (.lstore 6, 2) := by decide +kernel
theorem dL_law_52 : decode cL_law 52 = .ok (.aload_n 1, 1) := by decide +kernel
theorem dL_law_53 : decode cL_law 53 = .ok (.iconst 2, 1) := by decide +kernel
theorem dL_law_54 : decode cL_law 54 = .ok (.invokevirtual 19, 3) := by decide +kernel
theorem dL_law_57 : decode cL_law 57 = .ok (.istore 8, 2) := by decide +kernel
theorem dL_law_59 : decode cL_law 59 = .ok (.aload_n 1, 1) := by decide +kernel
theorem dL_law_60 : decode cL_law 60 = .ok (.iload 4, 2) := by decide +kernel
theorem dL_law_62 : decode cL_law 62 = .ok (.iload 5, 2) := by decide +kernel
theorem dL_law_64 : decode cL_law 64 = .ok (.invokestatic 122, 3) := by decide +kernel
theorem dL_law_67 : decode cL_law 67 = .ok (.istore 9, 2) := by decide +kernel
theorem dL_law_69 : decode cL_law 69 = .ok (.iload 9, 2) := by decide +kernel
theorem dL_law_71 : decode cL_law 71 = .ok (.iconst 1, 1) := by decide +kernel
theorem dL_law_72 : decode cL_law 72 = .ok (.if_icmp .ge 22, 3) := by decide +kernel
theorem dL_law_75 : decode cL_law 75 = .ok (.iload 9, 2) := by decide +kernel
theorem dL_law_77 : decode cL_law 77 = .ok (.ifCond .eq 13, 3) := by decide +kernel
theorem dL_law_80 : decode cL_law 80 = .ok (.aload_n 1, 1) := by decide +kernel
theorem dL_law_81 : decode cL_law 81 = .ok (.invokestatic 66, 3) := by decide +kernel
theorem dL_law_84 : decode cL_law 84 = .ok (.lload 6, 2) := by decide +kernel
theorem dL_law_86 : decode cL_law 86 = .ok (.lcmp, 1) := by decide +kernel
theorem dL_law_87 : decode cL_law 87 = .ok (.ifCond .ne 7, 3) := by decide +kernel
theorem dL_law_90 : decode cL_law 90 = .ok (.iconst 1, 1) := by decide +kernel
theorem dL_law_91 : decode cL_law 91 = .ok (.goto 4, 3) := by decide +kernel
theorem dL_law_94 : decode cL_law 94 = .ok (.iconst 0, 1) := by decide +kernel
theorem dL_law_95 : decode cL_law 95 = .ok (.istore_n 2, 1) := by decide +kernel
theorem dL_law_96 : decode cL_law 96 = .ok (.iload_n 2, 1) := by decide +kernel
theorem dL_law_97 : decode cL_law 97 = .ok (.ifCond .eq 60, 3) := by decide +kernel
theorem dL_law_100 : decode cL_law 100 = .ok (.iload 9, 2) := by decide +kernel
theorem dL_law_102 : decode cL_law 102 = .ok (.ifCond .ne 55, 3) := by decide +kernel
theorem dL_law_105 : decode cL_law 105 = .ok (.iload 8, 2) := by decide +kernel
theorem dL_law_107 : decode cL_law 107 = .ok (.iconst 5, 1) := by decide +kernel
theorem dL_law_108 : decode cL_law 108 = .ok (.if_icmp .ge 49, 3) := by decide +kernel
theorem dL_law_111 : decode cL_law 111 = .ok (.aload_n 1, 1) := by decide +kernel
theorem dL_law_112 : decode cL_law 112 = .ok (.iconst 2, 1) := by decide +kernel
theorem dL_law_113 : decode cL_law 113 = .ok (.invokevirtual 19, 3) := by decide +kernel
theorem dL_law_116 : decode cL_law 116 = .ok (.iload 8, 2) := by decide +kernel
theorem dL_law_118 : decode cL_law 118 = .ok (.iconst 1, 1) := by decide +kernel
theorem dL_law_119 : decode cL_law 119 = .ok (.iadd, 1) := by decide +kernel
theorem dL_law_120 : decode cL_law 120 = .ok (.if_icmp .ne 26, 3) := by decide +kernel
theorem dL_law_123 : decode cL_law 123 = .ok (.aload_n 1, 1) := by decide +kernel
theorem dL_law_124 : decode cL_law 124 = .ok (.invokevirtual 125, 3) := by decide +kernel
theorem dL_law_127 : decode cL_law 127 = .ok (.iload 8, 2) := by decide +kernel
theorem dL_law_129 : decode cL_law 129 = .ok (.if_icmp .ne 17, 3) := by decide +kernel
theorem dL_law_132 : decode cL_law 132 = .ok (.aload_n 1, 1) := by decide +kernel
theorem dL_law_133 : decode cL_law 133 = .ok (.invokestatic 66, 3) := by decide +kernel
theorem dL_law_136 : decode cL_law 136 = .ok (.lload 6, 2) := by decide +kernel
theorem dL_law_138 : decode cL_law 138 = .ok (.lcmp, 1) := by decide +kernel
theorem dL_law_139 : decode cL_law 139 = .ok (.ifCond .ne 7, 3) := by decide +kernel
theorem dL_law_142 : decode cL_law 142 = .ok (.iconst 1, 1) := by decide +kernel
theorem dL_law_143 : decode cL_law 143 = .ok (.goto 4, 3) := by decide +kernel
theorem dL_law_146 : decode cL_law 146 = .ok (.iconst 0, 1) := by decide +kernel
theorem dL_law_147 : decode cL_law 147 = .ok (.istore_n 2, 1) := by decide +kernel
theorem dL_law_148 : decode cL_law 148 = .ok (.aload_n 1, 1) := by decide +kernel
theorem dL_law_149 : decode cL_law 149 = .ok (.iload 4, 2) := by decide +kernel
theorem dL_law_151 : decode cL_law 151 = .ok (.iload 5, 2) := by decide +kernel
theorem dL_law_153 : decode cL_law 153 = .ok (.invokestatic 122, 3) := by decide +kernel
theorem dL_law_156 : decode cL_law 156 = .ok (.pop, 1) := by decide +kernel
theorem dL_law_157 : decode cL_law 157 = .ok (.iload_n 2, 1) := by decide +kernel
theorem dL_law_158 : decode cL_law 158 = .ok (.ifCond .eq 19, 3) := by decide +kernel
theorem dL_law_161 : decode cL_law 161 = .ok (.aload_n 1, 1) := by decide +kernel
theorem dL_law_162 : decode cL_law 162 = .ok (.iload 4, 2) := by decide +kernel
theorem dL_law_164 : decode cL_law 164 = .ok (.iload 5, 2) := by decide +kernel
theorem dL_law_166 : decode cL_law 166 = .ok (.ixor, 1) := by decide +kernel
theorem dL_law_167 : decode cL_law 167 = .ok (.invokestatic 116, 3) := by decide +kernel
theorem dL_law_170 : decode cL_law 170 = .ok (.ifCond .eq 7, 3) := by decide +kernel
theorem dL_law_173 : decode cL_law 173 = .ok (.iconst 1, 1) := by decide +kernel
theorem dL_law_174 : decode cL_law 174 = .ok (.goto 4, 3) := by decide +kernel
theorem dL_law_177 : decode cL_law 177 = .ok (.iconst 0, 1) := by decide +kernel
theorem dL_law_178 : decode cL_law 178 = .ok (.istore_n 2, 1) := by decide +kernel
theorem dL_law_179 : decode cL_law 179 = .ok (.iinc 3 1, 3) := by decide +kernel
theorem dL_law_182 : decode cL_law 182 = .ok (.goto (-166), 3) := by decide +kernel
theorem dL_law_185 : decode cL_law 185 = .ok (.iload_n 2, 1) := by decide +kernel
theorem dL_law_186 : decode cL_law 186 = .ok (.ireturn, 1) := by decide +kernel
