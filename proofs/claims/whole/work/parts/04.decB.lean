theorem D123_0 : decode (byt 123) 0 = .ok (.aload_n 0, 1) := by decide +kernel
theorem D123_1 : decode (byt 123) 1 = .ok (.invokespecial 1, 3) := by decide +kernel
theorem D123_4 : decode (byt 123) 4 = .ok (.aload_n 0, 1) := by decide +kernel
theorem D123_5 : decode (byt 123) 5 = .ok (.iconst 2, 1) := by decide +kernel
theorem D123_6 : decode (byt 123) 6 = .ok (.newarray .int, 2) := by decide +kernel
theorem D123_8 : decode (byt 123) 8 = .ok (.dup, 1) := by decide +kernel
theorem D123_9 : decode (byt 123) 9 = .ok (.iconst 0, 1) := by decide +kernel
theorem D123_10 : decode (byt 123) 10 = .ok (.bipush 8, 2) := by decide +kernel
theorem D123_12 : decode (byt 123) 12 = .ok (.iastore, 1) := by decide +kernel
theorem D123_13 : decode (byt 123) 13 = .ok (.dup, 1) := by decide +kernel
theorem D123_14 : decode (byt 123) 14 = .ok (.iconst 1, 1) := by decide +kernel
theorem D123_15 : decode (byt 123) 15 = .ok (.bipush 8, 2) := by decide +kernel
theorem D123_17 : decode (byt 123) 17 = .ok (.iastore, 1) := by decide +kernel
theorem D123_18 : decode (byt 123) 18 = .ok (.putfield 7, 3) := by decide +kernel
theorem D123_21 : decode (byt 123) 21 = .ok (.aload_n 0, 1) := by decide +kernel
theorem D123_22 : decode (byt 123) 22 = .ok (.bipush 80, 2) := by decide +kernel
theorem D123_24 : decode (byt 123) 24 = .ok (.newarray .int, 2) := by decide +kernel
theorem D123_26 : decode (byt 123) 26 = .ok (.putfield 13, 3) := by decide +kernel
theorem D123_29 : decode (byt 123) 29 = .ok (.aload_n 0, 1) := by decide +kernel
theorem D123_30 : decode (byt 123) 30 = .ok (.iconst 2, 1) := by decide +kernel
theorem D123_31 : decode (byt 123) 31 = .ok (.newarray .int, 2) := by decide +kernel
theorem D123_33 : decode (byt 123) 33 = .ok (.putfield 16, 3) := by decide +kernel
theorem D123_36 : decode (byt 123) 36 = .ok (.aload_n 0, 1) := by decide +kernel
theorem D123_37 : decode (byt 123) 37 = .ok (.iconst 2, 1) := by decide +kernel
theorem D123_38 : decode (byt 123) 38 = .ok (.newarray .int, 2) := by decide +kernel
theorem D123_40 : decode (byt 123) 40 = .ok (.putfield 19, 3) := by decide +kernel
theorem D123_43 : decode (byt 123) 43 = .ok (.aload_n 0, 1) := by decide +kernel
theorem D123_44 : decode (byt 123) 44 = .ok (.iconst 2, 1) := by decide +kernel
theorem D123_45 : decode (byt 123) 45 = .ok (.newarray .int, 2) := by decide +kernel
theorem D123_47 : decode (byt 123) 47 = .ok (.putfield 22, 3) := by decide +kernel
theorem D123_50 : decode (byt 123) 50 = .ok (.aload_n 0, 1) := by decide +kernel
theorem D123_51 : decode (byt 123) 51 = .ok (.iconst 2, 1) := by decide +kernel
theorem D123_52 : decode (byt 123) 52 = .ok (.newarray .int, 2) := by decide +kernel
theorem D123_54 : decode (byt 123) 54 = .ok (.putfield 25, 3) := by decide +kernel
theorem D123_57 : decode (byt 123) 57 = .ok (.aload_n 0, 1) := by decide +kernel
theorem D123_58 : decode (byt 123) 58 = .ok (.bipush 48, 2) := by decide +kernel
theorem D123_60 : decode (byt 123) 60 = .ok (.newarray .int, 2) := by decide +kernel
theorem D123_62 : decode (byt 123) 62 = .ok (.putfield 28, 3) := by decide +kernel
theorem D123_65 : decode (byt 123) 65 = .ok (.aload_n 0, 1) := by decide +kernel
theorem D123_66 : decode (byt 123) 66 = .ok (.bipush 10, 2) := by decide +kernel
theorem D123_68 : decode (byt 123) 68 = .ok (.newarray .int, 2) := by decide +kernel
theorem D123_70 : decode (byt 123) 70 = .ok (.putfield 31, 3) := by decide +kernel
theorem D123_73 : decode (byt 123) 73 = .ok (.aload_n 0, 1) := by decide +kernel
theorem D123_74 : decode (byt 123) 74 = .ok (.iconst 2, 1) := by decide +kernel
theorem D123_75 : decode (byt 123) 75 = .ok (.newarray .int, 2) := by decide +kernel
theorem D123_77 : decode (byt 123) 77 = .ok (.putfield 34, 3) := by decide +kernel
theorem D123_80 : decode (byt 123) 80 = .ok (.aload_n 0, 1) := by decide +kernel
theorem D123_81 : decode (byt 123) 81 = .ok (.iconst 2, 1) := by decide +kernel
theorem D123_82 : decode (byt 123) 82 = .ok (.newarray .int, 2) := by decide +kernel
theorem D123_84 : decode (byt 123) 84 = .ok (.putfield 37, 3) := by decide +kernel
theorem D123_87 : decode (byt 123) 87 = .ok (.aload_n 0, 1) := by decide +kernel
theorem D123_88 : decode (byt 123) 88 = .ok (.iconst 2, 1) := by decide +kernel
theorem D123_89 : decode (byt 123) 89 = .ok (.newarray .int, 2) := by decide +kernel
theorem D123_91 : decode (byt 123) 91 = .ok (.putfield 40, 3) := by decide +kernel
theorem D123_94 : decode (byt 123) 94 = .ok (.aload_n 0, 1) := by decide +kernel
theorem D123_95 : decode (byt 123) 95 = .ok (.sipush 3000, 3) := by decide +kernel
theorem D123_98 : decode (byt 123) 98 = .ok (.newarray .int, 2) := by decide +kernel
theorem D123_100 : decode (byt 123) 100 = .ok (.putfield 43, 3) := by decide +kernel
theorem D123_103 : decode (byt 123) 103 = .ok (.aload_n 0, 1) := by decide +kernel
theorem D123_104 : decode (byt 123) 104 = .ok (.sipush 3000, 3) := by decide +kernel
theorem D123_107 : decode (byt 123) 107 = .ok (.newarray .int, 2) := by decide +kernel
theorem D123_109 : decode (byt 123) 109 = .ok (.putfield 46, 3) := by decide +kernel
theorem D123_112 : decode (byt 123) 112 = .ok (.aload_n 0, 1) := by decide +kernel
theorem D123_113 : decode (byt 123) 113 = .ok (.sipush 3000, 3) := by decide +kernel
theorem D123_116 : decode (byt 123) 116 = .ok (.newarray .int, 2) := by decide +kernel
theorem D123_118 : decode (byt 123) 118 = .ok (.putfield 49, 3) := by decide +kernel
theorem D123_121 : decode (byt 123) 121 = .ok (.aload_n 0, 1) := by decide +kernel
theorem D123_122 : decode (byt 123) 122 = .ok (.sipush 3000, 3) := by decide +kernel
theorem D123_125 : decode (byt 123) 125 = .ok (.newarray .int, 2) := by decide +kernel
theorem D123_127 : decode (byt 123) 127 = .ok (.putfield 52, 3) := by decide +kernel
theorem D123_130 : decode (byt 123) 130 = .ok (.aload_n 0, 1) := by decide +kernel
theorem D123_131 : decode (byt 123) 131 = .ok (.ldc 55, 2) := by decide +kernel
theorem D123_133 : decode (byt 123) 133 = .ok (.newarray .int, 2) := by decide +kernel
theorem D123_135 : decode (byt 123) 135 = .ok (.putfield 56, 3) := by decide +kernel
theorem D123_138 : decode (byt 123) 138 = .ok (.aload_n 0, 1) := by decide +kernel
theorem D123_139 : decode (byt 123) 139 = .ok (.iconst 2, 1) := by decide +kernel
theorem D123_140 : decode (byt 123) 140 = .ok (.newarray .int, 2) := by decide +kernel
theorem D123_142 : decode (byt 123) 142 = .ok (.putfield 59, 3) := by decide +kernel
theorem D123_145 : decode (byt 123) 145 = .ok (.aload_n 0, 1) := by decide +kernel
theorem D123_146 : decode (byt 123) 146 = .ok (.bipush 24, 2) := by decide +kernel
theorem D123_148 : decode (byt 123) 148 = .ok (.newarray .int, 2) := by decide +kernel
theorem D123_150 : decode (byt 123) 150 = .ok (.putfield 62, 3) := by decide +kernel
theorem D123_153 : decode (byt 123) 153 = .ok (.aload_n 0, 1) := by decide +kernel
theorem D123_154 : decode (byt 123) 154 = .ok (.sipush 560, 3) := by decide +kernel
theorem D123_157 : decode (byt 123) 157 = .ok (.newarray .int, 2) := by decide +kernel
theorem D123_159 : decode (byt 123) 159 = .ok (.putfield 65, 3) := by decide +kernel
theorem D123_162 : decode (byt 123) 162 = .ok (.aload_n 0, 1) := by decide +kernel
theorem D123_163 : decode (byt 123) 163 = .ok (.bipush 14, 2) := by decide +kernel
theorem D123_165 : decode (byt 123) 165 = .ok (.newarray .int, 2) := by decide +kernel
theorem D123_167 : decode (byt 123) 167 = .ok (.putfield 68, 3) := by decide +kernel
theorem D123_170 : decode (byt 123) 170 = .ok (.aload_n 0, 1) := by decide +kernel
theorem D123_171 : decode (byt 123) 171 = .ok (.sipush 168, 3) := by decide +kernel
theorem D123_174 : decode (byt 123) 174 = .ok (.newarray .int, 2) := by decide +kernel
theorem D123_176 : decode (byt 123) 176 = .ok (.putfield 71, 3) := by decide +kernel
theorem D123_179 : decode (byt 123) 179 = .ok (.aload_n 0, 1) := by decide +kernel
theorem D123_180 : decode (byt 123) 180 = .ok (.bipush 14, 2) := by decide +kernel
theorem D123_182 : decode (byt 123) 182 = .ok (.newarray .int, 2) := by decide +kernel
theorem D123_184 : decode (byt 123) 184 = .ok (.putfield 74, 3) := by decide +kernel
theorem D123_187 : decode (byt 123) 187 = .ok (.aload_n 0, 1) := by decide +kernel
theorem D123_188 : decode (byt 123) 188 = .ok (.sipush 560, 3) := by decide +kernel
theorem D123_191 : decode (byt 123) 191 = .ok (.newarray .int, 2) := by decide +kernel
theorem D123_193 : decode (byt 123) 193 = .ok (.putfield 77, 3) := by decide +kernel
theorem D123_196 : decode (byt 123) 196 = .ok (.aload_n 0, 1) := by decide +kernel
theorem D123_197 : decode (byt 123) 197 = .ok (.bipush 14, 2) := by decide +kernel
theorem D123_199 : decode (byt 123) 199 = .ok (.newarray .int, 2) := by decide +kernel
theorem D123_201 : decode (byt 123) 201 = .ok (.putfield 80, 3) := by decide +kernel
theorem D123_204 : decode (byt 123) 204 = .ok (.aload_n 0, 1) := by decide +kernel
theorem D123_205 : decode (byt 123) 205 = .ok (.bipush 14, 2) := by decide +kernel
theorem D123_207 : decode (byt 123) 207 = .ok (.newarray .int, 2) := by decide +kernel
theorem D123_209 : decode (byt 123) 209 = .ok (.putfield 83, 3) := by decide +kernel
theorem D123_212 : decode (byt 123) 212 = .ok (.aload_n 0, 1) := by decide +kernel
theorem D123_213 : decode (byt 123) 213 = .ok (.sipush 168, 3) := by decide +kernel
theorem D123_216 : decode (byt 123) 216 = .ok (.newarray .int, 2) := by decide +kernel
theorem D123_218 : decode (byt 123) 218 = .ok (.putfield 86, 3) := by decide +kernel
theorem D123_221 : decode (byt 123) 221 = .ok (.aload_n 0, 1) := by decide +kernel
theorem D123_222 : decode (byt 123) 222 = .ok (.sipush 560, 3) := by decide +kernel
theorem D123_225 : decode (byt 123) 225 = .ok (.newarray .int, 2) := by decide +kernel
theorem D123_227 : decode (byt 123) 227 = .ok (.putfield 89, 3) := by decide +kernel
theorem D123_230 : decode (byt 123) 230 = .ok (.aload_n 0, 1) := by decide +kernel
theorem D123_231 : decode (byt 123) 231 = .ok (.bipush 14, 2) := by decide +kernel
theorem D123_233 : decode (byt 123) 233 = .ok (.newarray .int, 2) := by decide +kernel
theorem D123_235 : decode (byt 123) 235 = .ok (.putfield 92, 3) := by decide +kernel
theorem D123_238 : decode (byt 123) 238 = .ok (.aload_n 0, 1) := by decide +kernel
theorem D123_239 : decode (byt 123) 239 = .ok (.bipush 14, 2) := by decide +kernel
theorem D123_241 : decode (byt 123) 241 = .ok (.newarray .int, 2) := by decide +kernel
theorem D123_243 : decode (byt 123) 243 = .ok (.putfield 95, 3) := by decide +kernel
theorem D123_246 : decode (byt 123) 246 = .ok (.aload_n 0, 1) := by decide +kernel
theorem D123_247 : decode (byt 123) 247 = .ok (.bipush 14, 2) := by decide +kernel
theorem D123_249 : decode (byt 123) 249 = .ok (.newarray .int, 2) := by decide +kernel
theorem D123_251 : decode (byt 123) 251 = .ok (.putfield 98, 3) := by decide +kernel
theorem D123_254 : decode (byt 123) 254 = .ok (.aload_n 0, 1) := by decide +kernel
theorem D123_255 : decode (byt 123) 255 = .ok (.bipush 14, 2) := by decide +kernel
theorem D123_257 : decode (byt 123) 257 = .ok (.newarray .int, 2) := by decide +kernel
theorem D123_259 : decode (byt 123) 259 = .ok (.putfield 101, 3) := by decide +kernel
theorem D123_262 : decode (byt 123) 262 = .ok (.aload_n 0, 1) := by decide +kernel
theorem D123_263 : decode (byt 123) 263 = .ok (.sipush 4200, 3) := by decide +kernel
theorem D123_266 : decode (byt 123) 266 = .ok (.newarray .int, 2) := by decide +kernel
theorem D123_268 : decode (byt 123) 268 = .ok (.putfield 104, 3) := by decide +kernel
theorem D123_271 : decode (byt 123) 271 = .ok (.aload_n 0, 1) := by decide +kernel
theorem D123_272 : decode (byt 123) 272 = .ok (.sipush 4200, 3) := by decide +kernel
theorem D123_275 : decode (byt 123) 275 = .ok (.newarray .int, 2) := by decide +kernel
theorem D123_277 : decode (byt 123) 277 = .ok (.putfield 107, 3) := by decide +kernel
theorem D123_280 : decode (byt 123) 280 = .ok (.aload_n 0, 1) := by decide +kernel
theorem D123_281 : decode (byt 123) 281 = .ok (.sipush 4200, 3) := by decide +kernel
theorem D123_284 : decode (byt 123) 284 = .ok (.newarray .int, 2) := by decide +kernel
theorem D123_286 : decode (byt 123) 286 = .ok (.putfield 110, 3) := by decide +kernel
theorem D123_289 : decode (byt 123) 289 = .ok (.aload_n 0, 1) := by decide +kernel
theorem D123_290 : decode (byt 123) 290 = .ok (.ldc 113, 2) := by decide +kernel
theorem D123_292 : decode (byt 123) 292 = .ok (.newarray .int, 2) := by decide +kernel
theorem D123_294 : decode (byt 123) 294 = .ok (.putfield 114, 3) := by decide +kernel
theorem D123_297 : decode (byt 123) 297 = .ok (.aload_n 0, 1) := by decide +kernel
theorem D123_298 : decode (byt 123) 298 = .ok (.sipush 1500, 3) := by decide +kernel
theorem D123_301 : decode (byt 123) 301 = .ok (.newarray .int, 2) := by decide +kernel
theorem D123_303 : decode (byt 123) 303 = .ok (.putfield 117, 3) := by decide +kernel
theorem D123_306 : decode (byt 123) 306 = .ok (.aload_n 0, 1) := by decide +kernel
theorem D123_307 : decode (byt 123) 307 = .ok (.sipush 8192, 3) := by decide +kernel
theorem D123_310 : decode (byt 123) 310 = .ok (.newarray .boolean, 2) := by decide +kernel
theorem D123_312 : decode (byt 123) 312 = .ok (.putfield 120, 3) := by decide +kernel
theorem D123_315 : decode (byt 123) 315 = .ok (.aload_n 0, 1) := by decide +kernel
theorem D123_316 : decode (byt 123) 316 = .ok (.sipush 1500, 3) := by decide +kernel
theorem D123_319 : decode (byt 123) 319 = .ok (.newarray .boolean, 2) := by decide +kernel
theorem D123_321 : decode (byt 123) 321 = .ok (.putfield 124, 3) := by decide +kernel
theorem D123_324 : decode (byt 123) 324 = .ok (.aload_n 0, 1) := by decide +kernel
theorem D123_325 : decode (byt 123) 325 = .ok (.iconst 2, 1) := by decide +kernel
theorem D123_326 : decode (byt 123) 326 = .ok (.newarray .boolean, 2) := by decide +kernel
theorem D123_328 : decode (byt 123) 328 = .ok (.putfield 127, 3) := by decide +kernel
theorem D123_331 : decode (byt 123) 331 = .ok (.aload_n 0, 1) := by decide +kernel
theorem D123_332 : decode (byt 123) 332 = .ok (.iconst (-1), 1) := by decide +kernel
theorem D123_333 : decode (byt 123) 333 = .ok (.putfield 130, 3) := by decide +kernel
theorem D123_336 : decode (byt 123) 336 = .ok (.aload_n 0, 1) := by decide +kernel
theorem D123_337 : decode (byt 123) 337 = .ok (.sipush 4096, 3) := by decide +kernel
theorem D123_340 : decode (byt 123) 340 = .ok (.newarray .boolean, 2) := by decide +kernel
theorem D123_342 : decode (byt 123) 342 = .ok (.putfield 134, 3) := by decide +kernel
theorem D123_345 : decode (byt 123) 345 = .ok (.aload_n 0, 1) := by decide +kernel
theorem D123_346 : decode (byt 123) 346 = .ok (.iconst 5, 1) := by decide +kernel
theorem D123_347 : decode (byt 123) 347 = .ok (.newarray .int, 2) := by decide +kernel
theorem D123_349 : decode (byt 123) 349 = .ok (.putfield 137, 3) := by decide +kernel
theorem D123_352 : decode (byt 123) 352 = .ok (.aload_n 0, 1) := by decide +kernel
theorem D123_353 : decode (byt 123) 353 = .ok (.iconst 5, 1) := by decide +kernel
theorem D123_354 : decode (byt 123) 354 = .ok (.newarray .int, 2) := by decide +kernel
theorem D123_356 : decode (byt 123) 356 = .ok (.putfield 140, 3) := by decide +kernel
theorem D123_359 : decode (byt 123) 359 = .ok (.aload_n 0, 1) := by decide +kernel
theorem D123_360 : decode (byt 123) 360 = .ok (.iconst (-1), 1) := by decide +kernel
theorem D123_361 : decode (byt 123) 361 = .ok (.putfield 143, 3) := by decide +kernel
theorem D123_364 : decode (byt 123) 364 = .ok (.iconst 0, 1) := by decide +kernel
theorem D123_365 : decode (byt 123) 365 = .ok (.istore_n 1, 1) := by decide +kernel
theorem D123_366 : decode (byt 123) 366 = .ok (.iload_n 1, 1) := by decide +kernel
theorem D123_367 : decode (byt 123) 367 = .ok (.bipush 48, 2) := by decide +kernel
theorem D123_369 : decode (byt 123) 369 = .ok (.if_icmp .ge 16, 3) := by decide +kernel
theorem D123_372 : decode (byt 123) 372 = .ok (.aload_n 0, 1) := by decide +kernel
theorem D123_373 : decode (byt 123) 373 = .ok (.getfield 28, 3) := by decide +kernel
theorem D123_376 : decode (byt 123) 376 = .ok (.iload_n 1, 1) := by decide +kernel
theorem D123_377 : decode (byt 123) 377 = .ok (.iconst 1, 1) := by decide +kernel
theorem D123_378 : decode (byt 123) 378 = .ok (.iastore, 1) := by decide +kernel
theorem D123_379 : decode (byt 123) 379 = .ok (.iinc 1 1, 3) := by decide +kernel
theorem D123_382 : decode (byt 123) 382 = .ok (.goto (-16), 3) := by decide +kernel
theorem D123_385 : decode (byt 123) 385 = .ok (.return_, 1) := by decide +kernel
theorem D124_0 : decode (byt 124) 0 = .ok (.lload_n 0, 1) := by decide +kernel
theorem D124_1 : decode (byt 124) 1 = .ok (.lload_n 2, 1) := by decide +kernel
theorem D124_2 : decode (byt 124) 2 = .ok (.lcmp, 1) := by decide +kernel
theorem D124_3 : decode (byt 124) 3 = .ok (.ifCond .lt 14, 3) := by decide +kernel
theorem D124_6 : decode (byt 124) 6 = .ok (.lload_n 0, 1) := by decide +kernel
theorem D124_7 : decode (byt 124) 7 = .ok (.lload 4, 2) := by decide +kernel
theorem D124_9 : decode (byt 124) 9 = .ok (.lcmp, 1) := by decide +kernel
theorem D124_10 : decode (byt 124) 10 = .ok (.ifCond .gt 7, 3) := by decide +kernel
theorem D124_13 : decode (byt 124) 13 = .ok (.iconst 1, 1) := by decide +kernel
theorem D124_14 : decode (byt 124) 14 = .ok (.goto 4, 3) := by decide +kernel
theorem D124_17 : decode (byt 124) 17 = .ok (.iconst 0, 1) := by decide +kernel
theorem D124_18 : decode (byt 124) 18 = .ok (.ireturn, 1) := by decide +kernel
theorem D125_0 : decode (byt 125) 0 = .ok (.aload_n 0, 1) := by decide +kernel
theorem D125_1 : decode (byt 125) 1 = .ok (.getfield 31, 3) := by decide +kernel
theorem D125_4 : decode (byt 125) 4 = .ok (.iload_n 1, 1) := by decide +kernel
theorem D125_5 : decode (byt 125) 5 = .ok (.ineg, 1) := by decide +kernel
theorem D125_6 : decode (byt 125) 6 = .ok (.dup2, 1) := by decide +kernel
theorem D125_7 : decode (byt 125) 7 = .ok (.iaload, 1) := by decide +kernel
theorem D125_8 : decode (byt 125) 8 = .ok (.iconst 1, 1) := by decide +kernel
theorem D125_9 : decode (byt 125) 9 = .ok (.iadd, 1) := by decide +kernel
theorem D125_10 : decode (byt 125) 10 = .ok (.iastore, 1) := by decide +kernel
theorem D125_11 : decode (byt 125) 11 = .ok (.iload_n 1, 1) := by decide +kernel
theorem D125_12 : decode (byt 125) 12 = .ok (.ireturn, 1) := by decide +kernel
theorem D126_0 : decode (byt 126) 0 = .ok (.iload_n 0, 1) := by decide +kernel
theorem D126_1 : decode (byt 126) 1 = .ok (.ifCond .eq 8, 3) := by decide +kernel
theorem D126_4 : decode (byt 126) 4 = .ok (.iload_n 0, 1) := by decide +kernel
theorem D126_5 : decode (byt 126) 5 = .ok (.iconst 1, 1) := by decide +kernel
theorem D126_6 : decode (byt 126) 6 = .ok (.if_icmp .ne 7, 3) := by decide +kernel
theorem D126_9 : decode (byt 126) 9 = .ok (.iconst 1, 1) := by decide +kernel
theorem D126_10 : decode (byt 126) 10 = .ok (.goto 4, 3) := by decide +kernel
theorem D126_13 : decode (byt 126) 13 = .ok (.iconst 0, 1) := by decide +kernel
theorem D126_14 : decode (byt 126) 14 = .ok (.ireturn, 1) := by decide +kernel
theorem D127_0 : decode (byt 127) 0 = .ok (.iload_n 2, 1) := by decide +kernel
theorem D127_1 : decode (byt 127) 1 = .ok (.ifCond .eq 30, 3) := by decide +kernel
theorem D127_4 : decode (byt 127) 4 = .ok (.iload_n 2, 1) := by decide +kernel
theorem D127_5 : decode (byt 127) 5 = .ok (.i2l, 1) := by decide +kernel
theorem D127_6 : decode (byt 127) 6 = .ok (.aload_n 0, 1) := by decide +kernel
theorem D127_7 : decode (byt 127) 7 = .ok (.getfield 7, 3) := by decide +kernel
theorem D127_10 : decode (byt 127) 10 = .ok (.iload_n 1, 1) := by decide +kernel
theorem D127_11 : decode (byt 127) 11 = .ok (.iaload, 1) := by decide +kernel
theorem D127_12 : decode (byt 127) 12 = .ok (.ineg, 1) := by decide +kernel
theorem D127_13 : decode (byt 127) 13 = .ok (.i2l, 1) := by decide +kernel
theorem D127_14 : decode (byt 127) 14 = .ok (.aload_n 0, 1) := by decide +kernel
theorem D127_15 : decode (byt 127) 15 = .ok (.getfield 7, 3) := by decide +kernel
theorem D127_18 : decode (byt 127) 18 = .ok (.iload_n 1, 1) := by decide +kernel
theorem D127_19 : decode (byt 127) 19 = .ok (.iaload, 1) := by decide +kernel
theorem D127_20 : decode (byt 127) 20 = .ok (.i2l, 1) := by decide +kernel
theorem D127_21 : decode (byt 127) 21 = .ok (.invokestatic 146, 3) := by decide +kernel
theorem D127_24 : decode (byt 127) 24 = .ok (.ifCond .eq 7, 3) := by decide +kernel
theorem D127_27 : decode (byt 127) 27 = .ok (.iconst 1, 1) := by decide +kernel
theorem D127_28 : decode (byt 127) 28 = .ok (.goto 4, 3) := by decide +kernel
theorem D127_31 : decode (byt 127) 31 = .ok (.iconst 0, 1) := by decide +kernel
theorem D127_32 : decode (byt 127) 32 = .ok (.ireturn, 1) := by decide +kernel
theorem D128_0 : decode (byt 128) 0 = .ok (.iload_n 0, 1) := by decide +kernel
theorem D128_1 : decode (byt 128) 1 = .ok (.ifCond .le 11, 3) := by decide +kernel
theorem D128_4 : decode (byt 128) 4 = .ok (.iconst 1, 1) := by decide +kernel
theorem D128_5 : decode (byt 128) 5 = .ok (.iload_n 0, 1) := by decide +kernel
theorem D128_6 : decode (byt 128) 6 = .ok (.iconst 1, 1) := by decide +kernel
theorem D128_7 : decode (byt 128) 7 = .ok (.isub, 1) := by decide +kernel
theorem D128_8 : decode (byt 128) 8 = .ok (.ishl, 1) := by decide +kernel
theorem D128_9 : decode (byt 128) 9 = .ok (.goto 9, 3) := by decide +kernel
theorem D128_12 : decode (byt 128) 12 = .ok (.iconst 1, 1) := by decide +kernel
theorem D128_13 : decode (byt 128) 13 = .ok (.bipush 11, 2) := by decide +kernel
theorem D128_15 : decode (byt 128) 15 = .ok (.iload_n 0, 1) := by decide +kernel
theorem D128_16 : decode (byt 128) 16 = .ok (.isub, 1) := by decide +kernel
theorem D128_17 : decode (byt 128) 17 = .ok (.ishl, 1) := by decide +kernel
theorem D128_18 : decode (byt 128) 18 = .ok (.ireturn, 1) := by decide +kernel
theorem D129_0 : decode (byt 129) 0 = .ok (.iconst 0, 1) := by decide +kernel
theorem D129_1 : decode (byt 129) 1 = .ok (.istore_n 1, 1) := by decide +kernel
theorem D129_2 : decode (byt 129) 2 = .ok (.iconst 0, 1) := by decide +kernel
theorem D129_3 : decode (byt 129) 3 = .ok (.istore_n 2, 1) := by decide +kernel
theorem D129_4 : decode (byt 129) 4 = .ok (.iload_n 2, 1) := by decide +kernel
theorem D129_5 : decode (byt 129) 5 = .ok (.bipush 24, 2) := by decide +kernel
theorem D129_7 : decode (byt 129) 7 = .ok (.if_icmp .ge 17, 3) := by decide +kernel
theorem D129_10 : decode (byt 129) 10 = .ok (.iload_n 1, 1) := by decide +kernel
theorem D129_11 : decode (byt 129) 11 = .ok (.iload_n 0, 1) := by decide +kernel
theorem D129_12 : decode (byt 129) 12 = .ok (.iload_n 2, 1) := by decide +kernel
theorem D129_13 : decode (byt 129) 13 = .ok (.ishr, 1) := by decide +kernel
theorem D129_14 : decode (byt 129) 14 = .ok (.iconst 1, 1) := by decide +kernel
theorem D129_15 : decode (byt 129) 15 = .ok (.iand, 1) := by decide +kernel
theorem D129_16 : decode (byt 129) 16 = .ok (.iadd, 1) := by decide +kernel
theorem D129_17 : decode (byt 129) 17 = .ok (.istore_n 1, 1) := by decide +kernel
theorem D129_18 : decode (byt 129) 18 = .ok (.iinc 2 1, 3) := by decide +kernel
theorem D129_21 : decode (byt 129) 21 = .ok (.goto (-17), 3) := by decide +kernel
theorem D129_24 : decode (byt 129) 24 = .ok (.iload_n 1, 1) := by decide +kernel
theorem D129_25 : decode (byt 129) 25 = .ok (.ireturn, 1) := by decide +kernel
theorem D130_0 : decode (byt 130) 0 = .ok (.iload_n 0, 1) := by decide +kernel
theorem D130_1 : decode (byt 130) 1 = .ok (.bipush 12, 2) := by decide +kernel
theorem D130_3 : decode (byt 130) 3 = .ok (.ishr, 1) := by decide +kernel
theorem D130_4 : decode (byt 130) 4 = .ok (.sipush 4095, 3) := by decide +kernel
theorem D130_7 : decode (byt 130) 7 = .ok (.iand, 1) := by decide +kernel
theorem D130_8 : decode (byt 130) 8 = .ok (.iload_n 0, 1) := by decide +kernel
theorem D130_9 : decode (byt 130) 9 = .ok (.sipush 4095, 3) := by decide +kernel
theorem D130_12 : decode (byt 130) 12 = .ok (.iand, 1) := by decide +kernel
theorem D130_13 : decode (byt 130) 13 = .ok (.bipush 12, 2) := by decide +kernel
theorem D130_15 : decode (byt 130) 15 = .ok (.ishl, 1) := by decide +kernel
theorem D130_16 : decode (byt 130) 16 = .ok (.ior, 1) := by decide +kernel
theorem D130_17 : decode (byt 130) 17 = .ok (.ireturn, 1) := by decide +kernel
theorem D131_0 : decode (byt 131) 0 = .ok (.iload_n 0, 1) := by decide +kernel
theorem D131_1 : decode (byt 131) 1 = .ok (.iload_n 0, 1) := by decide +kernel
theorem D131_2 : decode (byt 131) 2 = .ok (.bipush 12, 2) := by decide +kernel
theorem D131_4 : decode (byt 131) 4 = .ok (.ishr, 1) := by decide +kernel
theorem D131_5 : decode (byt 131) 5 = .ok (.ior, 1) := by decide +kernel
theorem D131_6 : decode (byt 131) 6 = .ok (.sipush 4095, 3) := by decide +kernel
theorem D131_9 : decode (byt 131) 9 = .ok (.iand, 1) := by decide +kernel
theorem D131_10 : decode (byt 131) 10 = .ok (.ireturn, 1) := by decide +kernel
theorem D132_0 : decode (byt 132) 0 = .ok (.iload_n 1, 1) := by decide +kernel
theorem D132_1 : decode (byt 132) 1 = .ok (.invokestatic 150, 3) := by decide +kernel
theorem D132_4 : decode (byt 132) 4 = .ok (.ifCond .ne 10, 3) := by decide +kernel
theorem D132_7 : decode (byt 132) 7 = .ok (.aload_n 0, 1) := by decide +kernel
theorem D132_8 : decode (byt 132) 8 = .ok (.bipush (-3), 2) := by decide +kernel
theorem D132_10 : decode (byt 132) 10 = .ok (.invokevirtual 154, 3) := by decide +kernel
theorem D132_13 : decode (byt 132) 13 = .ok (.ireturn, 1) := by decide +kernel
theorem D132_14 : decode (byt 132) 14 = .ok (.iload_n 2, 1) := by decide +kernel
theorem D132_15 : decode (byt 132) 15 = .ok (.i2l, 1) := by decide +kernel
theorem D132_16 : decode (byt 132) 16 = .ok (.lconst 1, 1) := by decide +kernel
theorem D132_17 : decode (byt 132) 17 = .ok (.ldc2_w 158, 3) := by decide +kernel
theorem D132_20 : decode (byt 132) 20 = .ok (.invokestatic 146, 3) := by decide +kernel
theorem D132_23 : decode (byt 132) 23 = .ok (.ifCond .ne 10, 3) := by decide +kernel
theorem D132_26 : decode (byt 132) 26 = .ok (.aload_n 0, 1) := by decide +kernel
theorem D132_27 : decode (byt 132) 27 = .ok (.bipush (-7), 2) := by decide +kernel
theorem D132_29 : decode (byt 132) 29 = .ok (.invokevirtual 154, 3) := by decide +kernel
theorem D132_32 : decode (byt 132) 32 = .ok (.ireturn, 1) := by decide +kernel
theorem D132_33 : decode (byt 132) 33 = .ok (.aload_n 0, 1) := by decide +kernel
theorem D132_34 : decode (byt 132) 34 = .ok (.getfield 7, 3) := by decide +kernel
theorem D132_37 : decode (byt 132) 37 = .ok (.iload_n 1, 1) := by decide +kernel
theorem D132_38 : decode (byt 132) 38 = .ok (.iaload, 1) := by decide +kernel
theorem D132_39 : decode (byt 132) 39 = .ok (.istore_n 3, 1) := by decide +kernel
theorem D132_40 : decode (byt 132) 40 = .ok (.aload_n 0, 1) := by decide +kernel
theorem D132_41 : decode (byt 132) 41 = .ok (.getfield 7, 3) := by decide +kernel
theorem D132_44 : decode (byt 132) 44 = .ok (.iload_n 1, 1) := by decide +kernel
theorem D132_45 : decode (byt 132) 45 = .ok (.iload_n 2, 1) := by decide +kernel
theorem D132_46 : decode (byt 132) 46 = .ok (.iastore, 1) := by decide +kernel
theorem D132_47 : decode (byt 132) 47 = .ok (.aload_n 0, 1) := by decide +kernel
theorem D132_48 : decode (byt 132) 48 = .ok (.getfield 16, 3) := by decide +kernel
theorem D132_51 : decode (byt 132) 51 = .ok (.iload_n 1, 1) := by decide +kernel
theorem D132_52 : decode (byt 132) 52 = .ok (.iconst 0, 1) := by decide +kernel
theorem D132_53 : decode (byt 132) 53 = .ok (.iastore, 1) := by decide +kernel
theorem D132_54 : decode (byt 132) 54 = .ok (.aload_n 0, 1) := by decide +kernel
theorem D132_55 : decode (byt 132) 55 = .ok (.getfield 19, 3) := by decide +kernel
theorem D132_58 : decode (byt 132) 58 = .ok (.iload_n 1, 1) := by decide +kernel
theorem D132_59 : decode (byt 132) 59 = .ok (.iconst 0, 1) := by decide +kernel
theorem D132_60 : decode (byt 132) 60 = .ok (.iastore, 1) := by decide +kernel
theorem D132_61 : decode (byt 132) 61 = .ok (.aload_n 0, 1) := by decide +kernel
theorem D132_62 : decode (byt 132) 62 = .ok (.getfield 22, 3) := by decide +kernel
theorem D132_65 : decode (byt 132) 65 = .ok (.iload_n 1, 1) := by decide +kernel
theorem D132_66 : decode (byt 132) 66 = .ok (.iconst 0, 1) := by decide +kernel
theorem D132_67 : decode (byt 132) 67 = .ok (.iastore, 1) := by decide +kernel
theorem D132_68 : decode (byt 132) 68 = .ok (.aload_n 0, 1) := by decide +kernel
theorem D132_69 : decode (byt 132) 69 = .ok (.getfield 25, 3) := by decide +kernel
theorem D132_72 : decode (byt 132) 72 = .ok (.iload_n 1, 1) := by decide +kernel
theorem D132_73 : decode (byt 132) 73 = .ok (.iconst 0, 1) := by decide +kernel
theorem D132_74 : decode (byt 132) 74 = .ok (.iastore, 1) := by decide +kernel
theorem D132_75 : decode (byt 132) 75 = .ok (.iconst 0, 1) := by decide +kernel
theorem D132_76 : decode (byt 132) 76 = .ok (.istore 4, 2) := by decide +kernel
theorem D132_78 : decode (byt 132) 78 = .ok (.iload 4, 2) := by decide +kernel
theorem D132_80 : decode (byt 132) 80 = .ok (.bipush 24, 2) := by decide +kernel
theorem D132_82 : decode (byt 132) 82 = .ok (.if_icmp .ge 22, 3) := by decide +kernel
theorem D132_85 : decode (byt 132) 85 = .ok (.aload_n 0, 1) := by decide +kernel
theorem D132_86 : decode (byt 132) 86 = .ok (.getfield 28, 3) := by decide +kernel
theorem D132_89 : decode (byt 132) 89 = .ok (.bipush 24, 2) := by decide +kernel
theorem D132_91 : decode (byt 132) 91 = .ok (.iload_n 1, 1) := by decide +kernel
theorem D132_92 : decode (byt 132) 92 = .ok (.imul, 1) := by decide +kernel
theorem D132_93 : decode (byt 132) 93 = .ok (.iload 4, 2) := by decide +kernel
theorem D132_95 : decode (byt 132) 95 = .ok (.iadd, 1) := by decide +kernel
theorem D132_96 : decode (byt 132) 96 = .ok (.iconst 1, 1) := by decide +kernel
theorem D132_97 : decode (byt 132) 97 = .ok (.iastore, 1) := by decide +kernel
theorem D132_98 : decode (byt 132) 98 = .ok (.iinc 4 1, 3) := by decide +kernel
theorem D132_101 : decode (byt 132) 101 = .ok (.goto (-23), 3) := by decide +kernel
theorem D132_104 : decode (byt 132) 104 = .ok (.aload_n 0, 1) := by decide +kernel
theorem D132_105 : decode (byt 132) 105 = .ok (.getfield 34, 3) := by decide +kernel
theorem D132_108 : decode (byt 132) 108 = .ok (.iload_n 1, 1) := by decide +kernel
theorem D132_109 : decode (byt 132) 109 = .ok (.iconst 0, 1) := by decide +kernel
theorem D132_110 : decode (byt 132) 110 = .ok (.iastore, 1) := by decide +kernel
theorem D132_111 : decode (byt 132) 111 = .ok (.iload_n 3, 1) := by decide +kernel
theorem D132_112 : decode (byt 132) 112 = .ok (.ireturn, 1) := by decide +kernel
theorem D133_0 : decode (byt 133) 0 = .ok (.iload_n 2, 1) := by decide +kernel
theorem D133_1 : decode (byt 133) 1 = .ok (.ifCond .eq 12, 3) := by decide +kernel
theorem D133_4 : decode (byt 133) 4 = .ok (.iload_n 2, 1) := by decide +kernel
theorem D133_5 : decode (byt 133) 5 = .ok (.iload_n 2, 1) := by decide +kernel
theorem D133_6 : decode (byt 133) 6 = .ok (.invokestatic 160, 3) := by decide +kernel
theorem D133_9 : decode (byt 133) 9 = .ok (.iand, 1) := by decide +kernel
theorem D133_10 : decode (byt 133) 10 = .ok (.ifCond .eq 10, 3) := by decide +kernel
theorem D133_13 : decode (byt 133) 13 = .ok (.aload_n 0, 1) := by decide +kernel
theorem D133_14 : decode (byt 133) 14 = .ok (.bipush (-7), 2) := by decide +kernel
theorem D133_16 : decode (byt 133) 16 = .ok (.invokevirtual 154, 3) := by decide +kernel
theorem D133_19 : decode (byt 133) 19 = .ok (.ireturn, 1) := by decide +kernel
theorem D133_20 : decode (byt 133) 20 = .ok (.aload_n 0, 1) := by decide +kernel
theorem D133_21 : decode (byt 133) 21 = .ok (.getfield 16, 3) := by decide +kernel
theorem D133_24 : decode (byt 133) 24 = .ok (.iload_n 1, 1) := by decide +kernel
theorem D133_25 : decode (byt 133) 25 = .ok (.iaload, 1) := by decide +kernel
theorem D133_26 : decode (byt 133) 26 = .ok (.bipush 40, 2) := by decide +kernel
theorem D133_28 : decode (byt 133) 28 = .ok (.if_icmp .ne 10, 3) := by decide +kernel
theorem D133_31 : decode (byt 133) 31 = .ok (.aload_n 0, 1) := by decide +kernel
theorem D133_32 : decode (byt 133) 32 = .ok (.bipush (-8), 2) := by decide +kernel
theorem D133_34 : decode (byt 133) 34 = .ok (.invokevirtual 154, 3) := by decide +kernel
theorem D133_37 : decode (byt 133) 37 = .ok (.ireturn, 1) := by decide +kernel
theorem D133_38 : decode (byt 133) 38 = .ok (.aload_n 0, 1) := by decide +kernel
theorem D133_39 : decode (byt 133) 39 = .ok (.getfield 13, 3) := by decide +kernel
theorem D133_42 : decode (byt 133) 42 = .ok (.bipush 40, 2) := by decide +kernel
theorem D133_44 : decode (byt 133) 44 = .ok (.iload_n 1, 1) := by decide +kernel
theorem D133_45 : decode (byt 133) 45 = .ok (.imul, 1) := by decide +kernel
theorem D133_46 : decode (byt 133) 46 = .ok (.aload_n 0, 1) := by decide +kernel
theorem D133_47 : decode (byt 133) 47 = .ok (.getfield 16, 3) := by decide +kernel
theorem D133_50 : decode (byt 133) 50 = .ok (.iload_n 1, 1) := by decide +kernel
theorem D133_51 : decode (byt 133) 51 = .ok (.iaload, 1) := by decide +kernel
theorem D133_52 : decode (byt 133) 52 = .ok (.iadd, 1) := by decide +kernel
theorem D133_53 : decode (byt 133) 53 = .ok (.iload_n 2, 1) := by decide +kernel
theorem D133_54 : decode (byt 133) 54 = .ok (.iastore, 1) := by decide +kernel
theorem D133_55 : decode (byt 133) 55 = .ok (.aload_n 0, 1) := by decide +kernel
theorem D133_56 : decode (byt 133) 56 = .ok (.getfield 16, 3) := by decide +kernel
theorem D133_59 : decode (byt 133) 59 = .ok (.iload_n 1, 1) := by decide +kernel
theorem D133_60 : decode (byt 133) 60 = .ok (.dup2, 1) := by decide +kernel
theorem D133_61 : decode (byt 133) 61 = .ok (.iaload, 1) := by decide +kernel
theorem D133_62 : decode (byt 133) 62 = .ok (.iconst 1, 1) := by decide +kernel
theorem D133_63 : decode (byt 133) 63 = .ok (.iadd, 1) := by decide +kernel
theorem D133_64 : decode (byt 133) 64 = .ok (.iastore, 1) := by decide +kernel
theorem D133_65 : decode (byt 133) 65 = .ok (.aload_n 0, 1) := by decide +kernel
theorem D133_66 : decode (byt 133) 66 = .ok (.getfield 34, 3) := by decide +kernel
theorem D133_69 : decode (byt 133) 69 = .ok (.iload_n 1, 1) := by decide +kernel
theorem D133_70 : decode (byt 133) 70 = .ok (.iconst 0, 1) := by decide +kernel
theorem D133_71 : decode (byt 133) 71 = .ok (.iastore, 1) := by decide +kernel
theorem D133_72 : decode (byt 133) 72 = .ok (.aload_n 0, 1) := by decide +kernel
theorem D133_73 : decode (byt 133) 73 = .ok (.getfield 16, 3) := by decide +kernel
theorem D133_76 : decode (byt 133) 76 = .ok (.iload_n 1, 1) := by decide +kernel
theorem D133_77 : decode (byt 133) 77 = .ok (.iaload, 1) := by decide +kernel
theorem D133_78 : decode (byt 133) 78 = .ok (.iconst 1, 1) := by decide +kernel
theorem D133_79 : decode (byt 133) 79 = .ok (.isub, 1) := by decide +kernel
theorem D133_80 : decode (byt 133) 80 = .ok (.ireturn, 1) := by decide +kernel
theorem D134_0 : decode (byt 134) 0 = .ok (.iload_n 2, 1) := by decide +kernel
theorem D134_1 : decode (byt 134) 1 = .ok (.ifCond .eq 12, 3) := by decide +kernel
theorem D134_4 : decode (byt 134) 4 = .ok (.aload_n 0, 1) := by decide +kernel
theorem D134_5 : decode (byt 134) 5 = .ok (.iload_n 1, 1) := by decide +kernel
theorem D134_6 : decode (byt 134) 6 = .ok (.iload_n 2, 1) := by decide +kernel
theorem D134_7 : decode (byt 134) 7 = .ok (.invokevirtual 163, 3) := by decide +kernel
theorem D134_10 : decode (byt 134) 10 = .ok (.ifCond .eq 7, 3) := by decide +kernel
theorem D134_13 : decode (byt 134) 13 = .ok (.iconst 1, 1) := by decide +kernel
theorem D134_14 : decode (byt 134) 14 = .ok (.goto 4, 3) := by decide +kernel
theorem D134_17 : decode (byt 134) 17 = .ok (.iconst 0, 1) := by decide +kernel
theorem D134_18 : decode (byt 134) 18 = .ok (.ireturn, 1) := by decide +kernel
theorem D135_0 : decode (byt 135) 0 = .ok (.iload_n 1, 1) := by decide +kernel
theorem D135_1 : decode (byt 135) 1 = .ok (.invokestatic 150, 3) := by decide +kernel
theorem D135_4 : decode (byt 135) 4 = .ok (.ifCond .eq 41, 3) := by decide +kernel
theorem D135_7 : decode (byt 135) 7 = .ok (.aload_n 0, 1) := by decide +kernel
theorem D135_8 : decode (byt 135) 8 = .ok (.iload_n 1, 1) := by decide +kernel
theorem D135_9 : decode (byt 135) 9 = .ok (.iload_n 2, 1) := by decide +kernel
theorem D135_10 : decode (byt 135) 10 = .ok (.invokevirtual 167, 3) := by decide +kernel
theorem D135_13 : decode (byt 135) 13 = .ok (.ifCond .eq 32, 3) := by decide +kernel
theorem D135_16 : decode (byt 135) 16 = .ok (.aload_n 0, 1) := by decide +kernel
theorem D135_17 : decode (byt 135) 17 = .ok (.iload_n 1, 1) := by decide +kernel
theorem D135_18 : decode (byt 135) 18 = .ok (.iload_n 3, 1) := by decide +kernel
theorem D135_19 : decode (byt 135) 19 = .ok (.invokevirtual 167, 3) := by decide +kernel
theorem D135_22 : decode (byt 135) 22 = .ok (.ifCond .eq 23, 3) := by decide +kernel
theorem D135_25 : decode (byt 135) 25 = .ok (.aload_n 0, 1) := by decide +kernel
theorem D135_26 : decode (byt 135) 26 = .ok (.iload_n 1, 1) := by decide +kernel
theorem D135_27 : decode (byt 135) 27 = .ok (.iload 4, 2) := by decide +kernel
theorem D135_29 : decode (byt 135) 29 = .ok (.invokevirtual 167, 3) := by decide +kernel
theorem D135_32 : decode (byt 135) 32 = .ok (.ifCond .eq 13, 3) := by decide +kernel
theorem D135_35 : decode (byt 135) 35 = .ok (.aload_n 0, 1) := by decide +kernel
theorem D135_36 : decode (byt 135) 36 = .ok (.iload_n 1, 1) := by decide +kernel
theorem D135_37 : decode (byt 135) 37 = .ok (.iload 5, 2) := by decide +kernel
theorem D135_39 : decode (byt 135) 39 = .ok (.invokevirtual 167, 3) := by decide +kernel
theorem D135_42 : decode (byt 135) 42 = .ok (.ifCond .ne 10, 3) := by decide +kernel
theorem D135_45 : decode (byt 135) 45 = .ok (.aload_n 0, 1) := by decide +kernel
theorem D135_46 : decode (byt 135) 46 = .ok (.bipush (-3), 2) := by decide +kernel
theorem D135_48 : decode (byt 135) 48 = .ok (.invokevirtual 154, 3) := by decide +kernel
theorem D135_51 : decode (byt 135) 51 = .ok (.ireturn, 1) := by decide +kernel
theorem D135_52 : decode (byt 135) 52 = .ok (.iconst 0, 1) := by decide +kernel
theorem D135_53 : decode (byt 135) 53 = .ok (.istore 6, 2) := by decide +kernel
theorem D135_55 : decode (byt 135) 55 = .ok (.iload_n 2, 1) := by decide +kernel
theorem D135_56 : decode (byt 135) 56 = .ok (.ifCond .eq 12, 3) := by decide +kernel
theorem D135_59 : decode (byt 135) 59 = .ok (.iload 6, 2) := by decide +kernel
theorem D135_61 : decode (byt 135) 61 = .ok (.iload_n 2, 1) := by decide +kernel
theorem D135_62 : decode (byt 135) 62 = .ok (.invokestatic 170, 3) := by decide +kernel
theorem D135_65 : decode (byt 135) 65 = .ok (.ior, 1) := by decide +kernel
theorem D135_66 : decode (byt 135) 66 = .ok (.istore 6, 2) := by decide +kernel
theorem D135_68 : decode (byt 135) 68 = .ok (.iload_n 3, 1) := by decide +kernel
theorem D135_69 : decode (byt 135) 69 = .ok (.ifCond .eq 12, 3) := by decide +kernel
theorem D135_72 : decode (byt 135) 72 = .ok (.iload 6, 2) := by decide +kernel
theorem D135_74 : decode (byt 135) 74 = .ok (.iload_n 3, 1) := by decide +kernel
theorem D135_75 : decode (byt 135) 75 = .ok (.invokestatic 170, 3) := by decide +kernel
theorem D135_78 : decode (byt 135) 78 = .ok (.ior, 1) := by decide +kernel
theorem D135_79 : decode (byt 135) 79 = .ok (.istore 6, 2) := by decide +kernel
theorem D135_81 : decode (byt 135) 81 = .ok (.iload 4, 2) := by decide +kernel
theorem D135_83 : decode (byt 135) 83 = .ok (.ifCond .eq 13, 3) := by decide +kernel
theorem D135_86 : decode (byt 135) 86 = .ok (.iload 6, 2) := by decide +kernel
theorem D135_88 : decode (byt 135) 88 = .ok (.iload 4, 2) := by decide +kernel
theorem D135_90 : decode (byt 135) 90 = .ok (.invokestatic 170, 3) := by decide +kernel
theorem D135_93 : decode (byt 135) 93 = .ok (.ior, 1) := by decide +kernel
theorem D135_94 : decode (byt 135) 94 = .ok (.istore 6, 2) := by decide +kernel
theorem D135_96 : decode (byt 135) 96 = .ok (.iload 5, 2) := by decide +kernel
theorem D135_98 : decode (byt 135) 98 = .ok (.ifCond .eq 13, 3) := by decide +kernel
theorem D135_101 : decode (byt 135) 101 = .ok (.iload 6, 2) := by decide +kernel
theorem D135_103 : decode (byt 135) 103 = .ok (.iload 5, 2) := by decide +kernel
theorem D135_105 : decode (byt 135) 105 = .ok (.invokestatic 170, 3) := by decide +kernel
theorem D135_108 : decode (byt 135) 108 = .ok (.ior, 1) := by decide +kernel
theorem D135_109 : decode (byt 135) 109 = .ok (.istore 6, 2) := by decide +kernel
theorem D135_111 : decode (byt 135) 111 = .ok (.aload_n 0, 1) := by decide +kernel
theorem D135_112 : decode (byt 135) 112 = .ok (.iload_n 1, 1) := by decide +kernel
theorem D135_113 : decode (byt 135) 113 = .ok (.iload 6, 2) := by decide +kernel
theorem D135_115 : decode (byt 135) 115 = .ok (.invokevirtual 173, 3) := by decide +kernel
theorem D135_118 : decode (byt 135) 118 = .ok (.ireturn, 1) := by decide +kernel
theorem D136_0 : decode (byt 136) 0 = .ok (.iload_n 1, 1) := by decide +kernel
theorem D136_1 : decode (byt 136) 1 = .ok (.invokestatic 150, 3) := by decide +kernel
theorem D136_4 : decode (byt 136) 4 = .ok (.ifCond .eq 12, 3) := by decide +kernel
theorem D136_7 : decode (byt 136) 7 = .ok (.aload_n 0, 1) := by decide +kernel
theorem D136_8 : decode (byt 136) 8 = .ok (.iload_n 1, 1) := by decide +kernel
theorem D136_9 : decode (byt 136) 9 = .ok (.iload_n 2, 1) := by decide +kernel
theorem D136_10 : decode (byt 136) 10 = .ok (.invokevirtual 163, 3) := by decide +kernel
theorem D136_13 : decode (byt 136) 13 = .ok (.ifCond .ne 10, 3) := by decide +kernel
theorem D136_16 : decode (byt 136) 16 = .ok (.aload_n 0, 1) := by decide +kernel
theorem D136_17 : decode (byt 136) 17 = .ok (.bipush (-3), 2) := by decide +kernel
theorem D136_19 : decode (byt 136) 19 = .ok (.invokevirtual 154, 3) := by decide +kernel
theorem D136_22 : decode (byt 136) 22 = .ok (.ireturn, 1) := by decide +kernel
theorem D136_23 : decode (byt 136) 23 = .ok (.aload_n 0, 1) := by decide +kernel
theorem D136_24 : decode (byt 136) 24 = .ok (.getfield 16, 3) := by decide +kernel
theorem D136_27 : decode (byt 136) 27 = .ok (.iload_n 1, 1) := by decide +kernel
theorem D136_28 : decode (byt 136) 28 = .ok (.iaload, 1) := by decide +kernel
theorem D136_29 : decode (byt 136) 29 = .ok (.ifCond .ne 10, 3) := by decide +kernel
theorem D136_32 : decode (byt 136) 32 = .ok (.aload_n 0, 1) := by decide +kernel
theorem D136_33 : decode (byt 136) 33 = .ok (.bipush (-2), 2) := by decide +kernel
theorem D136_35 : decode (byt 136) 35 = .ok (.invokevirtual 154, 3) := by decide +kernel
theorem D136_38 : decode (byt 136) 38 = .ok (.ireturn, 1) := by decide +kernel
theorem D136_39 : decode (byt 136) 39 = .ok (.bipush 40, 2) := by decide +kernel
theorem D136_41 : decode (byt 136) 41 = .ok (.iload_n 1, 1) := by decide +kernel
theorem D136_42 : decode (byt 136) 42 = .ok (.imul, 1) := by decide +kernel
theorem D136_43 : decode (byt 136) 43 = .ok (.aload_n 0, 1) := by decide +kernel
theorem D136_44 : decode (byt 136) 44 = .ok (.getfield 16, 3) := by decide +kernel
theorem D136_47 : decode (byt 136) 47 = .ok (.iload_n 1, 1) := by decide +kernel
theorem D136_48 : decode (byt 136) 48 = .ok (.iaload, 1) := by decide +kernel
theorem D136_49 : decode (byt 136) 49 = .ok (.iadd, 1) := by decide +kernel
theorem D136_50 : decode (byt 136) 50 = .ok (.iconst 1, 1) := by decide +kernel
theorem D136_51 : decode (byt 136) 51 = .ok (.isub, 1) := by decide +kernel
theorem D136_52 : decode (byt 136) 52 = .ok (.istore_n 3, 1) := by decide +kernel
theorem D136_53 : decode (byt 136) 53 = .ok (.aload_n 0, 1) := by decide +kernel
theorem D136_54 : decode (byt 136) 54 = .ok (.getfield 13, 3) := by decide +kernel
theorem D136_57 : decode (byt 136) 57 = .ok (.iload_n 3, 1) := by decide +kernel
theorem D136_58 : decode (byt 136) 58 = .ok (.iaload, 1) := by decide +kernel
theorem D136_59 : decode (byt 136) 59 = .ok (.iload_n 2, 1) := by decide +kernel
theorem D136_60 : decode (byt 136) 60 = .ok (.invokestatic 170, 3) := by decide +kernel
theorem D136_63 : decode (byt 136) 63 = .ok (.iload_n 2, 1) := by decide +kernel
theorem D136_64 : decode (byt 136) 64 = .ok (.ineg, 1) := by decide +kernel
theorem D136_65 : decode (byt 136) 65 = .ok (.invokestatic 170, 3) := by decide +kernel
theorem D136_68 : decode (byt 136) 68 = .ok (.ior, 1) := by decide +kernel
theorem D136_69 : decode (byt 136) 69 = .ok (.iand, 1) := by decide +kernel
theorem D136_70 : decode (byt 136) 70 = .ok (.ifCond .eq 10, 3) := by decide +kernel
theorem D136_73 : decode (byt 136) 73 = .ok (.aload_n 0, 1) := by decide +kernel
theorem D136_74 : decode (byt 136) 74 = .ok (.bipush (-7), 2) := by decide +kernel
theorem D136_76 : decode (byt 136) 76 = .ok (.invokevirtual 154, 3) := by decide +kernel
theorem D136_79 : decode (byt 136) 79 = .ok (.ireturn, 1) := by decide +kernel
theorem D136_80 : decode (byt 136) 80 = .ok (.aload_n 0, 1) := by decide +kernel
theorem D136_81 : decode (byt 136) 81 = .ok (.getfield 13, 3) := by decide +kernel
theorem D136_84 : decode (byt 136) 84 = .ok (.iload_n 3, 1) := by decide +kernel
theorem D136_85 : decode (byt 136) 85 = .ok (.iaload, 1) := by decide +kernel
theorem D136_86 : decode (byt 136) 86 = .ok (.invokestatic 177, 3) := by decide +kernel
theorem D136_89 : decode (byt 136) 89 = .ok (.iconst 5, 1) := by decide +kernel
theorem D136_90 : decode (byt 136) 90 = .ok (.if_icmp .ne 10, 3) := by decide +kernel
theorem D136_93 : decode (byt 136) 93 = .ok (.aload_n 0, 1) := by decide +kernel
theorem D136_94 : decode (byt 136) 94 = .ok (.bipush (-8), 2) := by decide +kernel
theorem D136_96 : decode (byt 136) 96 = .ok (.invokevirtual 154, 3) := by decide +kernel
theorem D136_99 : decode (byt 136) 99 = .ok (.ireturn, 1) := by decide +kernel
theorem D136_100 : decode (byt 136) 100 = .ok (.aload_n 0, 1) := by decide +kernel
theorem D136_101 : decode (byt 136) 101 = .ok (.getfield 13, 3) := by decide +kernel
theorem D136_104 : decode (byt 136) 104 = .ok (.iload_n 3, 1) := by decide +kernel
theorem D136_105 : decode (byt 136) 105 = .ok (.dup2, 1) := by decide +kernel
theorem D136_106 : decode (byt 136) 106 = .ok (.iaload, 1) := by decide +kernel
theorem D136_107 : decode (byt 136) 107 = .ok (.iload_n 2, 1) := by decide +kernel
theorem D136_108 : decode (byt 136) 108 = .ok (.invokestatic 170, 3) := by decide +kernel
theorem D136_111 : decode (byt 136) 111 = .ok (.ior, 1) := by decide +kernel
theorem D136_112 : decode (byt 136) 112 = .ok (.iastore, 1) := by decide +kernel
theorem D136_113 : decode (byt 136) 113 = .ok (.aload_n 0, 1) := by decide +kernel
theorem D136_114 : decode (byt 136) 114 = .ok (.getfield 34, 3) := by decide +kernel
theorem D136_117 : decode (byt 136) 117 = .ok (.iload_n 1, 1) := by decide +kernel
theorem D136_118 : decode (byt 136) 118 = .ok (.iconst 0, 1) := by decide +kernel
theorem D136_119 : decode (byt 136) 119 = .ok (.iastore, 1) := by decide +kernel
theorem D136_120 : decode (byt 136) 120 = .ok (.aload_n 0, 1) := by decide +kernel
theorem D136_121 : decode (byt 136) 121 = .ok (.getfield 13, 3) := by decide +kernel
theorem D136_124 : decode (byt 136) 124 = .ok (.iload_n 3, 1) := by decide +kernel
theorem D136_125 : decode (byt 136) 125 = .ok (.iaload, 1) := by decide +kernel
theorem D136_126 : decode (byt 136) 126 = .ok (.invokestatic 177, 3) := by decide +kernel
theorem D136_129 : decode (byt 136) 129 = .ok (.ireturn, 1) := by decide +kernel
theorem D137_0 : decode (byt 137) 0 = .ok (.iload_n 1, 1) := by decide +kernel
theorem D137_1 : decode (byt 137) 1 = .ok (.invokestatic 150, 3) := by decide +kernel
theorem D137_4 : decode (byt 137) 4 = .ok (.ifCond .ne 10, 3) := by decide +kernel
theorem D137_7 : decode (byt 137) 7 = .ok (.aload_n 0, 1) := by decide +kernel
theorem D137_8 : decode (byt 137) 8 = .ok (.bipush (-3), 2) := by decide +kernel
theorem D137_10 : decode (byt 137) 10 = .ok (.invokevirtual 154, 3) := by decide +kernel
theorem D137_13 : decode (byt 137) 13 = .ok (.ireturn, 1) := by decide +kernel
theorem D137_14 : decode (byt 137) 14 = .ok (.aload_n 0, 1) := by decide +kernel
theorem D137_15 : decode (byt 137) 15 = .ok (.getfield 16, 3) := by decide +kernel
theorem D137_18 : decode (byt 137) 18 = .ok (.iload_n 1, 1) := by decide +kernel
theorem D137_19 : decode (byt 137) 19 = .ok (.iaload, 1) := by decide +kernel
theorem D137_20 : decode (byt 137) 20 = .ok (.ifCond .ne 10, 3) := by decide +kernel
theorem D137_23 : decode (byt 137) 23 = .ok (.aload_n 0, 1) := by decide +kernel
theorem D137_24 : decode (byt 137) 24 = .ok (.bipush (-2), 2) := by decide +kernel
theorem D137_26 : decode (byt 137) 26 = .ok (.invokevirtual 154, 3) := by decide +kernel
theorem D137_29 : decode (byt 137) 29 = .ok (.ireturn, 1) := by decide +kernel
theorem D137_30 : decode (byt 137) 30 = .ok (.aload_n 0, 1) := by decide +kernel
theorem D137_31 : decode (byt 137) 31 = .ok (.getfield 16, 3) := by decide +kernel
theorem D137_34 : decode (byt 137) 34 = .ok (.iload_n 1, 1) := by decide +kernel
theorem D137_35 : decode (byt 137) 35 = .ok (.dup2, 1) := by decide +kernel
theorem D137_36 : decode (byt 137) 36 = .ok (.iaload, 1) := by decide +kernel
theorem D137_37 : decode (byt 137) 37 = .ok (.iconst 1, 1) := by decide +kernel
theorem D137_38 : decode (byt 137) 38 = .ok (.isub, 1) := by decide +kernel
theorem D137_39 : decode (byt 137) 39 = .ok (.iastore, 1) := by decide +kernel
theorem D137_40 : decode (byt 137) 40 = .ok (.aload_n 0, 1) := by decide +kernel
theorem D137_41 : decode (byt 137) 41 = .ok (.getfield 34, 3) := by decide +kernel
theorem D137_44 : decode (byt 137) 44 = .ok (.iload_n 1, 1) := by decide +kernel
theorem D137_45 : decode (byt 137) 45 = .ok (.iconst 0, 1) := by decide +kernel
theorem D137_46 : decode (byt 137) 46 = .ok (.iastore, 1) := by decide +kernel
theorem D137_47 : decode (byt 137) 47 = .ok (.aload_n 0, 1) := by decide +kernel
theorem D137_48 : decode (byt 137) 48 = .ok (.getfield 16, 3) := by decide +kernel
theorem D137_51 : decode (byt 137) 51 = .ok (.iload_n 1, 1) := by decide +kernel
theorem D137_52 : decode (byt 137) 52 = .ok (.iaload, 1) := by decide +kernel
theorem D137_53 : decode (byt 137) 53 = .ok (.ireturn, 1) := by decide +kernel
theorem D138_0 : decode (byt 138) 0 = .ok (.iload_n 1, 1) := by decide +kernel
theorem D138_1 : decode (byt 138) 1 = .ok (.invokestatic 150, 3) := by decide +kernel
theorem D138_4 : decode (byt 138) 4 = .ok (.ifCond .eq 23, 3) := by decide +kernel
theorem D138_7 : decode (byt 138) 7 = .ok (.iload_n 2, 1) := by decide +kernel
theorem D138_8 : decode (byt 138) 8 = .ok (.i2l, 1) := by decide +kernel
theorem D138_9 : decode (byt 138) 9 = .ok (.lconst 1, 1) := by decide +kernel
theorem D138_10 : decode (byt 138) 10 = .ok (.aload_n 0, 1) := by decide +kernel
theorem D138_11 : decode (byt 138) 11 = .ok (.getfield 7, 3) := by decide +kernel
theorem D138_14 : decode (byt 138) 14 = .ok (.iload_n 1, 1) := by decide +kernel
theorem D138_15 : decode (byt 138) 15 = .ok (.iaload, 1) := by decide +kernel
theorem D138_16 : decode (byt 138) 16 = .ok (.i2l, 1) := by decide +kernel
theorem D138_17 : decode (byt 138) 17 = .ok (.invokestatic 146, 3) := by decide +kernel
theorem D138_20 : decode (byt 138) 20 = .ok (.ifCond .eq 7, 3) := by decide +kernel
theorem D138_23 : decode (byt 138) 23 = .ok (.iconst 1, 1) := by decide +kernel
theorem D138_24 : decode (byt 138) 24 = .ok (.goto 4, 3) := by decide +kernel
theorem D138_27 : decode (byt 138) 27 = .ok (.iconst 0, 1) := by decide +kernel
theorem D138_28 : decode (byt 138) 28 = .ok (.ireturn, 1) := by decide +kernel
theorem D139_0 : decode (byt 139) 0 = .ok (.aload_n 0, 1) := by decide +kernel
theorem D139_1 : decode (byt 139) 1 = .ok (.iload_n 1, 1) := by decide +kernel
theorem D139_2 : decode (byt 139) 2 = .ok (.iload_n 2, 1) := by decide +kernel
theorem D139_3 : decode (byt 139) 3 = .ok (.invokevirtual 180, 3) := by decide +kernel
theorem D139_6 : decode (byt 139) 6 = .ok (.ifCond .ne 10, 3) := by decide +kernel
theorem D139_9 : decode (byt 139) 9 = .ok (.aload_n 0, 1) := by decide +kernel
theorem D139_10 : decode (byt 139) 10 = .ok (.bipush (-3), 2) := by decide +kernel
theorem D139_12 : decode (byt 139) 12 = .ok (.invokevirtual 154, 3) := by decide +kernel
theorem D139_15 : decode (byt 139) 15 = .ok (.ireturn, 1) := by decide +kernel
theorem D139_16 : decode (byt 139) 16 = .ok (.iconst 1, 1) := by decide +kernel
theorem D139_17 : decode (byt 139) 17 = .ok (.iload_n 2, 1) := by decide +kernel
theorem D139_18 : decode (byt 139) 18 = .ok (.iconst 1, 1) := by decide +kernel
theorem D139_19 : decode (byt 139) 19 = .ok (.isub, 1) := by decide +kernel
theorem D139_20 : decode (byt 139) 20 = .ok (.ishl, 1) := by decide +kernel
theorem D139_21 : decode (byt 139) 21 = .ok (.istore 4, 2) := by decide +kernel
theorem D139_23 : decode (byt 139) 23 = .ok (.aload_n 0, 1) := by decide +kernel
theorem D139_24 : decode (byt 139) 24 = .ok (.getfield 19, 3) := by decide +kernel
theorem D139_27 : decode (byt 139) 27 = .ok (.iload_n 1, 1) := by decide +kernel
theorem D139_28 : decode (byt 139) 28 = .ok (.iaload, 1) := by decide +kernel
theorem D139_29 : decode (byt 139) 29 = .ok (.iload 4, 2) := by decide +kernel
theorem D139_31 : decode (byt 139) 31 = .ok (.iand, 1) := by decide +kernel
theorem D139_32 : decode (byt 139) 32 = .ok (.ifCond .eq 7, 3) := by decide +kernel
theorem D139_35 : decode (byt 139) 35 = .ok (.iconst 1, 1) := by decide +kernel
theorem D139_36 : decode (byt 139) 36 = .ok (.goto 4, 3) := by decide +kernel
theorem D139_39 : decode (byt 139) 39 = .ok (.iconst 0, 1) := by decide +kernel
theorem D139_40 : decode (byt 139) 40 = .ok (.istore 5, 2) := by decide +kernel
theorem D139_42 : decode (byt 139) 42 = .ok (.iload_n 3, 1) := by decide +kernel
theorem D139_43 : decode (byt 139) 43 = .ok (.ifCond .eq 17, 3) := by decide +kernel
theorem D139_46 : decode (byt 139) 46 = .ok (.aload_n 0, 1) := by decide +kernel
theorem D139_47 : decode (byt 139) 47 = .ok (.getfield 19, 3) := by decide +kernel
theorem D139_50 : decode (byt 139) 50 = .ok (.iload_n 1, 1) := by decide +kernel
theorem D139_51 : decode (byt 139) 51 = .ok (.dup2, 1) := by decide +kernel
theorem D139_52 : decode (byt 139) 52 = .ok (.iaload, 1) := by decide +kernel
theorem D139_53 : decode (byt 139) 53 = .ok (.iload 4, 2) := by decide +kernel
theorem D139_55 : decode (byt 139) 55 = .ok (.ior, 1) := by decide +kernel
theorem D139_56 : decode (byt 139) 56 = .ok (.iastore, 1) := by decide +kernel
theorem D139_57 : decode (byt 139) 57 = .ok (.goto 16, 3) := by decide +kernel
theorem D139_60 : decode (byt 139) 60 = .ok (.aload_n 0, 1) := by decide +kernel
theorem D139_61 : decode (byt 139) 61 = .ok (.getfield 19, 3) := by decide +kernel
theorem D139_64 : decode (byt 139) 64 = .ok (.iload_n 1, 1) := by decide +kernel
theorem D139_65 : decode (byt 139) 65 = .ok (.dup2, 1) := by decide +kernel
theorem D139_66 : decode (byt 139) 66 = .ok (.iaload, 1) := by decide +kernel
theorem D139_67 : decode (byt 139) 67 = .ok (.iload 4, 2) := by decide +kernel
theorem D139_69 : decode (byt 139) 69 = .ok (.iconst (-1), 1) := by decide +kernel
theorem D139_70 : decode (byt 139) 70 = .ok (.ixor, 1) := by decide +kernel
theorem D139_71 : decode (byt 139) 71 = .ok (.iand, 1) := by decide +kernel
theorem D139_72 : decode (byt 139) 72 = .ok (.iastore, 1) := by decide +kernel
theorem D139_73 : decode (byt 139) 73 = .ok (.iload 5, 2) := by decide +kernel
theorem D139_75 : decode (byt 139) 75 = .ok (.iload_n 3, 1) := by decide +kernel
theorem D139_76 : decode (byt 139) 76 = .ok (.if_icmp .eq 10, 3) := by decide +kernel
theorem D139_79 : decode (byt 139) 79 = .ok (.aload_n 0, 1) := by decide +kernel
theorem D139_80 : decode (byt 139) 80 = .ok (.getfield 34, 3) := by decide +kernel
theorem D139_83 : decode (byt 139) 83 = .ok (.iload_n 1, 1) := by decide +kernel
theorem D139_84 : decode (byt 139) 84 = .ok (.iconst 0, 1) := by decide +kernel
theorem D139_85 : decode (byt 139) 85 = .ok (.iastore, 1) := by decide +kernel
theorem D139_86 : decode (byt 139) 86 = .ok (.iload 5, 2) := by decide +kernel
theorem D139_88 : decode (byt 139) 88 = .ok (.ifCond .eq 7, 3) := by decide +kernel
theorem D139_91 : decode (byt 139) 91 = .ok (.iconst 1, 1) := by decide +kernel
theorem D139_92 : decode (byt 139) 92 = .ok (.goto 4, 3) := by decide +kernel
theorem D139_95 : decode (byt 139) 95 = .ok (.iconst 0, 1) := by decide +kernel
theorem D139_96 : decode (byt 139) 96 = .ok (.ireturn, 1) := by decide +kernel
theorem D140_0 : decode (byt 140) 0 = .ok (.iload_n 1, 1) := by decide +kernel
theorem D140_1 : decode (byt 140) 1 = .ok (.invokestatic 150, 3) := by decide +kernel
theorem D140_4 : decode (byt 140) 4 = .ok (.ifCond .eq 12, 3) := by decide +kernel
theorem D140_7 : decode (byt 140) 7 = .ok (.aload_n 0, 1) := by decide +kernel
theorem D140_8 : decode (byt 140) 8 = .ok (.iload_n 1, 1) := by decide +kernel
theorem D140_9 : decode (byt 140) 9 = .ok (.iload_n 2, 1) := by decide +kernel
theorem D140_10 : decode (byt 140) 10 = .ok (.invokevirtual 163, 3) := by decide +kernel
theorem D140_13 : decode (byt 140) 13 = .ok (.ifCond .ne 10, 3) := by decide +kernel
theorem D140_16 : decode (byt 140) 16 = .ok (.aload_n 0, 1) := by decide +kernel
theorem D140_17 : decode (byt 140) 17 = .ok (.bipush (-3), 2) := by decide +kernel
theorem D140_19 : decode (byt 140) 19 = .ok (.invokevirtual 154, 3) := by decide +kernel
theorem D140_22 : decode (byt 140) 22 = .ok (.ireturn, 1) := by decide +kernel
theorem D140_23 : decode (byt 140) 23 = .ok (.iload_n 2, 1) := by decide +kernel
theorem D140_24 : decode (byt 140) 24 = .ok (.invokestatic 170, 3) := by decide +kernel
theorem D140_27 : decode (byt 140) 27 = .ok (.invokestatic 183, 3) := by decide +kernel
theorem D140_30 : decode (byt 140) 30 = .ok (.istore_n 3, 1) := by decide +kernel
theorem D140_31 : decode (byt 140) 31 = .ok (.iload_n 2, 1) := by decide +kernel
theorem D140_32 : decode (byt 140) 32 = .ok (.ifCond .le 12, 3) := by decide +kernel
theorem D140_35 : decode (byt 140) 35 = .ok (.aload_n 0, 1) := by decide +kernel
theorem D140_36 : decode (byt 140) 36 = .ok (.getfield 22, 3) := by decide +kernel
theorem D140_39 : decode (byt 140) 39 = .ok (.iload_n 1, 1) := by decide +kernel
theorem D140_40 : decode (byt 140) 40 = .ok (.iaload, 1) := by decide +kernel
theorem D140_41 : decode (byt 140) 41 = .ok (.goto 9, 3) := by decide +kernel
theorem D140_44 : decode (byt 140) 44 = .ok (.aload_n 0, 1) := by decide +kernel
theorem D140_45 : decode (byt 140) 45 = .ok (.getfield 25, 3) := by decide +kernel
theorem D140_48 : decode (byt 140) 48 = .ok (.iload_n 1, 1) := by decide +kernel
theorem D140_49 : decode (byt 140) 49 = .ok (.iaload, 1) := by decide +kernel
theorem D140_50 : decode (byt 140) 50 = .ok (.iload_n 3, 1) := by decide +kernel
theorem D140_51 : decode (byt 140) 51 = .ok (.iand, 1) := by decide +kernel
theorem D140_52 : decode (byt 140) 52 = .ok (.ifCond .eq 7, 3) := by decide +kernel
theorem D140_55 : decode (byt 140) 55 = .ok (.iconst 1, 1) := by decide +kernel
theorem D140_56 : decode (byt 140) 56 = .ok (.goto 4, 3) := by decide +kernel
theorem D140_59 : decode (byt 140) 59 = .ok (.iconst 0, 1) := by decide +kernel
theorem D140_60 : decode (byt 140) 60 = .ok (.istore 4, 2) := by decide +kernel
theorem D140_62 : decode (byt 140) 62 = .ok (.iload_n 2, 1) := by decide +kernel
theorem D140_63 : decode (byt 140) 63 = .ok (.ifCond .le 12, 3) := by decide +kernel
theorem D140_66 : decode (byt 140) 66 = .ok (.aload_n 0, 1) := by decide +kernel
theorem D140_67 : decode (byt 140) 67 = .ok (.getfield 25, 3) := by decide +kernel
theorem D140_70 : decode (byt 140) 70 = .ok (.iload_n 1, 1) := by decide +kernel
theorem D140_71 : decode (byt 140) 71 = .ok (.iaload, 1) := by decide +kernel
theorem D140_72 : decode (byt 140) 72 = .ok (.goto 9, 3) := by decide +kernel
theorem D140_75 : decode (byt 140) 75 = .ok (.aload_n 0, 1) := by decide +kernel
theorem D140_76 : decode (byt 140) 76 = .ok (.getfield 22, 3) := by decide +kernel
theorem D140_79 : decode (byt 140) 79 = .ok (.iload_n 1, 1) := by decide +kernel
theorem D140_80 : decode (byt 140) 80 = .ok (.iaload, 1) := by decide +kernel
theorem D140_81 : decode (byt 140) 81 = .ok (.iload_n 3, 1) := by decide +kernel
theorem D140_82 : decode (byt 140) 82 = .ok (.iand, 1) := by decide +kernel
theorem D140_83 : decode (byt 140) 83 = .ok (.ifCond .eq 7, 3) := by decide +kernel
theorem D140_86 : decode (byt 140) 86 = .ok (.iconst 1, 1) := by decide +kernel
theorem D140_87 : decode (byt 140) 87 = .ok (.goto 4, 3) := by decide +kernel
theorem D140_90 : decode (byt 140) 90 = .ok (.iconst 0, 1) := by decide +kernel
theorem D140_91 : decode (byt 140) 91 = .ok (.istore 5, 2) := by decide +kernel
theorem D140_93 : decode (byt 140) 93 = .ok (.aload_n 0, 1) := by decide +kernel
theorem D140_94 : decode (byt 140) 94 = .ok (.getfield 22, 3) := by decide +kernel
theorem D140_97 : decode (byt 140) 97 = .ok (.iload_n 1, 1) := by decide +kernel
theorem D140_98 : decode (byt 140) 98 = .ok (.iload_n 2, 1) := by decide +kernel
theorem D140_99 : decode (byt 140) 99 = .ok (.ifCond .le 14, 3) := by decide +kernel
theorem D140_102 : decode (byt 140) 102 = .ok (.aload_n 0, 1) := by decide +kernel
theorem D140_103 : decode (byt 140) 103 = .ok (.getfield 22, 3) := by decide +kernel
theorem D140_106 : decode (byt 140) 106 = .ok (.iload_n 1, 1) := by decide +kernel
theorem D140_107 : decode (byt 140) 107 = .ok (.iaload, 1) := by decide +kernel
theorem D140_108 : decode (byt 140) 108 = .ok (.iload_n 3, 1) := by decide +kernel
theorem D140_109 : decode (byt 140) 109 = .ok (.ior, 1) := by decide +kernel
theorem D140_110 : decode (byt 140) 110 = .ok (.goto 13, 3) := by decide +kernel
theorem D140_113 : decode (byt 140) 113 = .ok (.aload_n 0, 1) := by decide +kernel
theorem D140_114 : decode (byt 140) 114 = .ok (.getfield 22, 3) := by decide +kernel
theorem D140_117 : decode (byt 140) 117 = .ok (.iload_n 1, 1) := by decide +kernel
theorem D140_118 : decode (byt 140) 118 = .ok (.iaload, 1) := by decide +kernel
theorem D140_119 : decode (byt 140) 119 = .ok (.iload_n 3, 1) := by decide +kernel
theorem D140_120 : decode (byt 140) 120 = .ok (.iconst (-1), 1) := by decide +kernel
theorem D140_121 : decode (byt 140) 121 = .ok (.ixor, 1) := by decide +kernel
theorem D140_122 : decode (byt 140) 122 = .ok (.iand, 1) := by decide +kernel
theorem D140_123 : decode (byt 140) 123 = .ok (.iastore, 1) := by decide +kernel
theorem D140_124 : decode (byt 140) 124 = .ok (.aload_n 0, 1) := by decide +kernel
theorem D140_125 : decode (byt 140) 125 = .ok (.getfield 25, 3) := by decide +kernel
theorem D140_128 : decode (byt 140) 128 = .ok (.iload_n 1, 1) := by decide +kernel
theorem D140_129 : decode (byt 140) 129 = .ok (.iload_n 2, 1) := by decide +kernel
theorem D140_130 : decode (byt 140) 130 = .ok (.ifCond .le 16, 3) := by decide +kernel
theorem D140_133 : decode (byt 140) 133 = .ok (.aload_n 0, 1) := by decide +kernel
theorem D140_134 : decode (byt 140) 134 = .ok (.getfield 25, 3) := by decide +kernel
theorem D140_137 : decode (byt 140) 137 = .ok (.iload_n 1, 1) := by decide +kernel
theorem D140_138 : decode (byt 140) 138 = .ok (.iaload, 1) := by decide +kernel
theorem D140_139 : decode (byt 140) 139 = .ok (.iload_n 3, 1) := by decide +kernel
theorem D140_140 : decode (byt 140) 140 = .ok (.iconst (-1), 1) := by decide +kernel
theorem D140_141 : decode (byt 140) 141 = .ok (.ixor, 1) := by decide +kernel
theorem D140_142 : decode (byt 140) 142 = .ok (.iand, 1) := by decide +kernel
theorem D140_143 : decode (byt 140) 143 = .ok (.goto 11, 3) := by decide +kernel
theorem D140_146 : decode (byt 140) 146 = .ok (.aload_n 0, 1) := by decide +kernel
theorem D140_147 : decode (byt 140) 147 = .ok (.getfield 25, 3) := by decide +kernel
theorem D140_150 : decode (byt 140) 150 = .ok (.iload_n 1, 1) := by decide +kernel
theorem D140_151 : decode (byt 140) 151 = .ok (.iaload, 1) := by decide +kernel
theorem D140_152 : decode (byt 140) 152 = .ok (.iload_n 3, 1) := by decide +kernel
theorem D140_153 : decode (byt 140) 153 = .ok (.ior, 1) := by decide +kernel
theorem D140_154 : decode (byt 140) 154 = .ok (.iastore, 1) := by decide +kernel
theorem D140_155 : decode (byt 140) 155 = .ok (.iload 4, 2) := by decide +kernel
theorem D140_157 : decode (byt 140) 157 = .ok (.ifCond .eq 7, 3) := by decide +kernel
theorem D140_160 : decode (byt 140) 160 = .ok (.iconst 0, 1) := by decide +kernel
theorem D140_161 : decode (byt 140) 161 = .ok (.goto 13, 3) := by decide +kernel
theorem D140_164 : decode (byt 140) 164 = .ok (.iload 5, 2) := by decide +kernel
theorem D140_166 : decode (byt 140) 166 = .ok (.ifCond .eq 7, 3) := by decide +kernel
theorem D140_169 : decode (byt 140) 169 = .ok (.iconst 2, 1) := by decide +kernel
theorem D140_170 : decode (byt 140) 170 = .ok (.goto 4, 3) := by decide +kernel
theorem D140_173 : decode (byt 140) 173 = .ok (.iconst 1, 1) := by decide +kernel
theorem D140_174 : decode (byt 140) 174 = .ok (.ireturn, 1) := by decide +kernel
theorem D141_0 : decode (byt 141) 0 = .ok (.aload_n 0, 1) := by decide +kernel
theorem D141_1 : decode (byt 141) 1 = .ok (.iload_n 1, 1) := by decide +kernel
theorem D141_2 : decode (byt 141) 2 = .ok (.iload_n 2, 1) := by decide +kernel
theorem D141_3 : decode (byt 141) 3 = .ok (.invokevirtual 180, 3) := by decide +kernel
theorem D141_6 : decode (byt 141) 6 = .ok (.ifCond .ne 10, 3) := by decide +kernel
theorem D141_9 : decode (byt 141) 9 = .ok (.aload_n 0, 1) := by decide +kernel
theorem D141_10 : decode (byt 141) 10 = .ok (.bipush (-3), 2) := by decide +kernel
theorem D141_12 : decode (byt 141) 12 = .ok (.invokevirtual 154, 3) := by decide +kernel
theorem D141_15 : decode (byt 141) 15 = .ok (.ireturn, 1) := by decide +kernel
theorem D141_16 : decode (byt 141) 16 = .ok (.iconst 1, 1) := by decide +kernel
theorem D141_17 : decode (byt 141) 17 = .ok (.iload_n 2, 1) := by decide +kernel
theorem D141_18 : decode (byt 141) 18 = .ok (.iconst 1, 1) := by decide +kernel
theorem D141_19 : decode (byt 141) 19 = .ok (.isub, 1) := by decide +kernel
theorem D141_20 : decode (byt 141) 20 = .ok (.ishl, 1) := by decide +kernel
theorem D141_21 : decode (byt 141) 21 = .ok (.istore_n 3, 1) := by decide +kernel
theorem D141_22 : decode (byt 141) 22 = .ok (.aload_n 0, 1) := by decide +kernel
theorem D141_23 : decode (byt 141) 23 = .ok (.getfield 22, 3) := by decide +kernel
theorem D141_26 : decode (byt 141) 26 = .ok (.iload_n 1, 1) := by decide +kernel
theorem D141_27 : decode (byt 141) 27 = .ok (.iaload, 1) := by decide +kernel
theorem D141_28 : decode (byt 141) 28 = .ok (.aload_n 0, 1) := by decide +kernel
theorem D141_29 : decode (byt 141) 29 = .ok (.getfield 25, 3) := by decide +kernel
theorem D141_32 : decode (byt 141) 32 = .ok (.iload_n 1, 1) := by decide +kernel
theorem D141_33 : decode (byt 141) 33 = .ok (.iaload, 1) := by decide +kernel
theorem D141_34 : decode (byt 141) 34 = .ok (.ior, 1) := by decide +kernel
theorem D141_35 : decode (byt 141) 35 = .ok (.iload_n 3, 1) := by decide +kernel
theorem D141_36 : decode (byt 141) 36 = .ok (.iand, 1) := by decide +kernel
theorem D141_37 : decode (byt 141) 37 = .ok (.ifCond .eq 7, 3) := by decide +kernel
theorem D141_40 : decode (byt 141) 40 = .ok (.iconst 1, 1) := by decide +kernel
theorem D141_41 : decode (byt 141) 41 = .ok (.goto 4, 3) := by decide +kernel
theorem D141_44 : decode (byt 141) 44 = .ok (.iconst 0, 1) := by decide +kernel
theorem D141_45 : decode (byt 141) 45 = .ok (.istore 4, 2) := by decide +kernel
theorem D141_47 : decode (byt 141) 47 = .ok (.aload_n 0, 1) := by decide +kernel
theorem D141_48 : decode (byt 141) 48 = .ok (.getfield 22, 3) := by decide +kernel
theorem D141_51 : decode (byt 141) 51 = .ok (.iload_n 1, 1) := by decide +kernel
theorem D141_52 : decode (byt 141) 52 = .ok (.dup2, 1) := by decide +kernel
theorem D141_53 : decode (byt 141) 53 = .ok (.iaload, 1) := by decide +kernel
theorem D141_54 : decode (byt 141) 54 = .ok (.iload_n 3, 1) := by decide +kernel
theorem D141_55 : decode (byt 141) 55 = .ok (.iconst (-1), 1) := by decide +kernel
theorem D141_56 : decode (byt 141) 56 = .ok (.ixor, 1) := by decide +kernel
theorem D141_57 : decode (byt 141) 57 = .ok (.iand, 1) := by decide +kernel
theorem D141_58 : decode (byt 141) 58 = .ok (.iastore, 1) := by decide +kernel
theorem D141_59 : decode (byt 141) 59 = .ok (.aload_n 0, 1) := by decide +kernel
theorem D141_60 : decode (byt 141) 60 = .ok (.getfield 25, 3) := by decide +kernel
theorem D141_63 : decode (byt 141) 63 = .ok (.iload_n 1, 1) := by decide +kernel
theorem D141_64 : decode (byt 141) 64 = .ok (.dup2, 1) := by decide +kernel
theorem D141_65 : decode (byt 141) 65 = .ok (.iaload, 1) := by decide +kernel
theorem D141_66 : decode (byt 141) 66 = .ok (.iload_n 3, 1) := by decide +kernel
theorem D141_67 : decode (byt 141) 67 = .ok (.iconst (-1), 1) := by decide +kernel
theorem D141_68 : decode (byt 141) 68 = .ok (.ixor, 1) := by decide +kernel
theorem D141_69 : decode (byt 141) 69 = .ok (.iand, 1) := by decide +kernel
theorem D141_70 : decode (byt 141) 70 = .ok (.iastore, 1) := by decide +kernel
theorem D141_71 : decode (byt 141) 71 = .ok (.iload 4, 2) := by decide +kernel
theorem D141_73 : decode (byt 141) 73 = .ok (.ireturn, 1) := by decide +kernel
theorem D142_0 : decode (byt 142) 0 = .ok (.bipush 24, 2) := by decide +kernel
theorem D142_2 : decode (byt 142) 2 = .ok (.iload_n 0, 1) := by decide +kernel
theorem D142_3 : decode (byt 142) 3 = .ok (.imul, 1) := by decide +kernel
theorem D142_4 : decode (byt 142) 4 = .ok (.iload_n 1, 1) := by decide +kernel
theorem D142_5 : decode (byt 142) 5 = .ok (.ifCond .le 9, 3) := by decide +kernel
theorem D142_8 : decode (byt 142) 8 = .ok (.iload_n 1, 1) := by decide +kernel
theorem D142_9 : decode (byt 142) 9 = .ok (.iconst 1, 1) := by decide +kernel
theorem D142_10 : decode (byt 142) 10 = .ok (.isub, 1) := by decide +kernel
theorem D142_11 : decode (byt 142) 11 = .ok (.goto 7, 3) := by decide +kernel
theorem D142_14 : decode (byt 142) 14 = .ok (.bipush 11, 2) := by decide +kernel
theorem D142_16 : decode (byt 142) 16 = .ok (.iload_n 1, 1) := by decide +kernel
theorem D142_17 : decode (byt 142) 17 = .ok (.isub, 1) := by decide +kernel
theorem D142_18 : decode (byt 142) 18 = .ok (.iadd, 1) := by decide +kernel
theorem D142_19 : decode (byt 142) 19 = .ok (.ireturn, 1) := by decide +kernel
theorem D143_0 : decode (byt 143) 0 = .ok (.iload_n 1, 1) := by decide +kernel
theorem D143_1 : decode (byt 143) 1 = .ok (.invokestatic 150, 3) := by decide +kernel
theorem D143_4 : decode (byt 143) 4 = .ok (.ifCond .eq 12, 3) := by decide +kernel
theorem D143_7 : decode (byt 143) 7 = .ok (.aload_n 0, 1) := by decide +kernel
theorem D143_8 : decode (byt 143) 8 = .ok (.iload_n 1, 1) := by decide +kernel
theorem D143_9 : decode (byt 143) 9 = .ok (.iload_n 2, 1) := by decide +kernel
theorem D143_10 : decode (byt 143) 10 = .ok (.invokevirtual 163, 3) := by decide +kernel
theorem D143_13 : decode (byt 143) 13 = .ok (.ifCond .ne 10, 3) := by decide +kernel
theorem D143_16 : decode (byt 143) 16 = .ok (.aload_n 0, 1) := by decide +kernel
theorem D143_17 : decode (byt 143) 17 = .ok (.bipush (-3), 2) := by decide +kernel
theorem D143_19 : decode (byt 143) 19 = .ok (.invokevirtual 154, 3) := by decide +kernel
theorem D143_22 : decode (byt 143) 22 = .ok (.ireturn, 1) := by decide +kernel
theorem D143_23 : decode (byt 143) 23 = .ok (.iload_n 3, 1) := by decide +kernel
theorem D143_24 : decode (byt 143) 24 = .ok (.i2l, 1) := by decide +kernel
theorem D143_25 : decode (byt 143) 25 = .ok (.lconst 0, 1) := by decide +kernel
theorem D143_26 : decode (byt 143) 26 = .ok (.ldc2_w 186, 3) := by decide +kernel
theorem D143_29 : decode (byt 143) 29 = .ok (.invokestatic 146, 3) := by decide +kernel
theorem D143_32 : decode (byt 143) 32 = .ok (.ifCond .ne 10, 3) := by decide +kernel
theorem D143_35 : decode (byt 143) 35 = .ok (.aload_n 0, 1) := by decide +kernel
theorem D143_36 : decode (byt 143) 36 = .ok (.bipush (-7), 2) := by decide +kernel
theorem D143_38 : decode (byt 143) 38 = .ok (.invokevirtual 154, 3) := by decide +kernel
theorem D143_41 : decode (byt 143) 41 = .ok (.ireturn, 1) := by decide +kernel
theorem D143_42 : decode (byt 143) 42 = .ok (.aload_n 0, 1) := by decide +kernel
theorem D143_43 : decode (byt 143) 43 = .ok (.getfield 28, 3) := by decide +kernel
theorem D143_46 : decode (byt 143) 46 = .ok (.iload_n 1, 1) := by decide +kernel
theorem D143_47 : decode (byt 143) 47 = .ok (.iload_n 2, 1) := by decide +kernel
theorem D143_48 : decode (byt 143) 48 = .ok (.invokestatic 188, 3) := by decide +kernel
theorem D143_51 : decode (byt 143) 51 = .ok (.iaload, 1) := by decide +kernel
theorem D143_52 : decode (byt 143) 52 = .ok (.istore 4, 2) := by decide +kernel
theorem D143_54 : decode (byt 143) 54 = .ok (.aload_n 0, 1) := by decide +kernel
theorem D143_55 : decode (byt 143) 55 = .ok (.getfield 28, 3) := by decide +kernel
theorem D143_58 : decode (byt 143) 58 = .ok (.iload_n 1, 1) := by decide +kernel
theorem D143_59 : decode (byt 143) 59 = .ok (.iload_n 2, 1) := by decide +kernel
theorem D143_60 : decode (byt 143) 60 = .ok (.invokestatic 188, 3) := by decide +kernel
theorem D143_63 : decode (byt 143) 63 = .ok (.iload_n 3, 1) := by decide +kernel
theorem D143_64 : decode (byt 143) 64 = .ok (.iastore, 1) := by decide +kernel
theorem D143_65 : decode (byt 143) 65 = .ok (.iload 4, 2) := by decide +kernel
theorem D143_67 : decode (byt 143) 67 = .ok (.ireturn, 1) := by decide +kernel
theorem D144_0 : decode (byt 144) 0 = .ok (.iload_n 1, 1) := by decide +kernel
theorem D144_1 : decode (byt 144) 1 = .ok (.invokestatic 150, 3) := by decide +kernel
theorem D144_4 : decode (byt 144) 4 = .ok (.ifCond .ne 10, 3) := by decide +kernel
theorem D144_7 : decode (byt 144) 7 = .ok (.aload_n 0, 1) := by decide +kernel
theorem D144_8 : decode (byt 144) 8 = .ok (.bipush (-3), 2) := by decide +kernel
theorem D144_10 : decode (byt 144) 10 = .ok (.invokevirtual 154, 3) := by decide +kernel
theorem D144_13 : decode (byt 144) 13 = .ok (.ireturn, 1) := by decide +kernel
theorem D144_14 : decode (byt 144) 14 = .ok (.iload_n 2, 1) := by decide +kernel
theorem D144_15 : decode (byt 144) 15 = .ok (.tableswitch 105 0 5 #[37, 44, 51, 58, 78, 88], 37) := by decide +kernel
theorem D144_52 : decode (byt 144) 52 = .ok (.aload_n 0, 1) := by decide +kernel
theorem D144_53 : decode (byt 144) 53 = .ok (.getfield 7, 3) := by decide +kernel
theorem D144_56 : decode (byt 144) 56 = .ok (.iload_n 1, 1) := by decide +kernel
theorem D144_57 : decode (byt 144) 57 = .ok (.iaload, 1) := by decide +kernel
theorem D144_58 : decode (byt 144) 58 = .ok (.ireturn, 1) := by decide +kernel
theorem D144_59 : decode (byt 144) 59 = .ok (.aload_n 0, 1) := by decide +kernel
theorem D144_60 : decode (byt 144) 60 = .ok (.getfield 16, 3) := by decide +kernel
theorem D144_63 : decode (byt 144) 63 = .ok (.iload_n 1, 1) := by decide +kernel
theorem D144_64 : decode (byt 144) 64 = .ok (.iaload, 1) := by decide +kernel
theorem D144_65 : decode (byt 144) 65 = .ok (.ireturn, 1) := by decide +kernel
theorem D144_66 : decode (byt 144) 66 = .ok (.aload_n 0, 1) := by decide +kernel
theorem D144_67 : decode (byt 144) 67 = .ok (.getfield 34, 3) := by decide +kernel
theorem D144_70 : decode (byt 144) 70 = .ok (.iload_n 1, 1) := by decide +kernel
theorem D144_71 : decode (byt 144) 71 = .ok (.iaload, 1) := by decide +kernel
theorem D144_72 : decode (byt 144) 72 = .ok (.ireturn, 1) := by decide +kernel
theorem D144_73 : decode (byt 144) 73 = .ok (.aload_n 0, 1) := by decide +kernel
theorem D144_74 : decode (byt 144) 74 = .ok (.getfield 34, 3) := by decide +kernel
theorem D144_77 : decode (byt 144) 77 = .ok (.iload_n 1, 1) := by decide +kernel
theorem D144_78 : decode (byt 144) 78 = .ok (.iaload, 1) := by decide +kernel
theorem D144_79 : decode (byt 144) 79 = .ok (.ifCond .le 12, 3) := by decide +kernel
theorem D144_82 : decode (byt 144) 82 = .ok (.aload_n 0, 1) := by decide +kernel
theorem D144_83 : decode (byt 144) 83 = .ok (.getfield 40, 3) := by decide +kernel
theorem D144_86 : decode (byt 144) 86 = .ok (.iload_n 1, 1) := by decide +kernel
theorem D144_87 : decode (byt 144) 87 = .ok (.iaload, 1) := by decide +kernel
theorem D144_88 : decode (byt 144) 88 = .ok (.goto 4, 3) := by decide +kernel
theorem D144_91 : decode (byt 144) 91 = .ok (.iconst 0, 1) := by decide +kernel
theorem D144_92 : decode (byt 144) 92 = .ok (.ireturn, 1) := by decide +kernel
theorem D144_93 : decode (byt 144) 93 = .ok (.aload_n 0, 1) := by decide +kernel
theorem D144_94 : decode (byt 144) 94 = .ok (.getfield 19, 3) := by decide +kernel
theorem D144_97 : decode (byt 144) 97 = .ok (.iload_n 1, 1) := by decide +kernel
theorem D144_98 : decode (byt 144) 98 = .ok (.iaload, 1) := by decide +kernel
theorem D144_99 : decode (byt 144) 99 = .ok (.invokestatic 177, 3) := by decide +kernel
theorem D144_102 : decode (byt 144) 102 = .ok (.ireturn, 1) := by decide +kernel
theorem D144_103 : decode (byt 144) 103 = .ok (.aload_n 0, 1) := by decide +kernel
theorem D144_104 : decode (byt 144) 104 = .ok (.getfield 22, 3) := by decide +kernel
theorem D144_107 : decode (byt 144) 107 = .ok (.iload_n 1, 1) := by decide +kernel
theorem D144_108 : decode (byt 144) 108 = .ok (.iaload, 1) := by decide +kernel
theorem D144_109 : decode (byt 144) 109 = .ok (.aload_n 0, 1) := by decide +kernel
theorem D144_110 : decode (byt 144) 110 = .ok (.getfield 25, 3) := by decide +kernel
theorem D144_113 : decode (byt 144) 113 = .ok (.iload_n 1, 1) := by decide +kernel
theorem D144_114 : decode (byt 144) 114 = .ok (.iaload, 1) := by decide +kernel
theorem D144_115 : decode (byt 144) 115 = .ok (.ior, 1) := by decide +kernel
theorem D144_116 : decode (byt 144) 116 = .ok (.invokestatic 177, 3) := by decide +kernel
theorem D144_119 : decode (byt 144) 119 = .ok (.ireturn, 1) := by decide +kernel
theorem D144_120 : decode (byt 144) 120 = .ok (.aload_n 0, 1) := by decide +kernel
theorem D144_121 : decode (byt 144) 121 = .ok (.bipush (-7), 2) := by decide +kernel
theorem D144_123 : decode (byt 144) 123 = .ok (.invokevirtual 154, 3) := by decide +kernel
theorem D144_126 : decode (byt 144) 126 = .ok (.ireturn, 1) := by decide +kernel
theorem D145_0 : decode (byt 145) 0 = .ok (.aload_n 0, 1) := by decide +kernel
theorem D145_1 : decode (byt 145) 1 = .ok (.getfield 34, 3) := by decide +kernel
theorem D145_4 : decode (byt 145) 4 = .ok (.iload_n 1, 1) := by decide +kernel
theorem D145_5 : decode (byt 145) 5 = .ok (.iaload, 1) := by decide +kernel
theorem D145_6 : decode (byt 145) 6 = .ok (.sipush 1500, 3) := by decide +kernel
theorem D145_9 : decode (byt 145) 9 = .ok (.if_icmp .ne 10, 3) := by decide +kernel
theorem D145_12 : decode (byt 145) 12 = .ok (.aload_n 0, 1) := by decide +kernel
theorem D145_13 : decode (byt 145) 13 = .ok (.iconst 1, 1) := by decide +kernel
theorem D145_14 : decode (byt 145) 14 = .ok (.putfield 191, 3) := by decide +kernel
theorem D145_17 : decode (byt 145) 17 = .ok (.iconst 1, 1) := by decide +kernel
theorem D145_18 : decode (byt 145) 18 = .ok (.ireturn, 1) := by decide +kernel
theorem D145_19 : decode (byt 145) 19 = .ok (.sipush 1500, 3) := by decide +kernel
theorem D145_22 : decode (byt 145) 22 = .ok (.iload_n 1, 1) := by decide +kernel
theorem D145_23 : decode (byt 145) 23 = .ok (.imul, 1) := by decide +kernel
theorem D145_24 : decode (byt 145) 24 = .ok (.aload_n 0, 1) := by decide +kernel
theorem D145_25 : decode (byt 145) 25 = .ok (.getfield 34, 3) := by decide +kernel
theorem D145_28 : decode (byt 145) 28 = .ok (.iload_n 1, 1) := by decide +kernel
theorem D145_29 : decode (byt 145) 29 = .ok (.iaload, 1) := by decide +kernel
theorem D145_30 : decode (byt 145) 30 = .ok (.iadd, 1) := by decide +kernel
theorem D145_31 : decode (byt 145) 31 = .ok (.istore 4, 2) := by decide +kernel
theorem D145_33 : decode (byt 145) 33 = .ok (.aload_n 0, 1) := by decide +kernel
theorem D145_34 : decode (byt 145) 34 = .ok (.getfield 43, 3) := by decide +kernel
theorem D145_37 : decode (byt 145) 37 = .ok (.iload 4, 2) := by decide +kernel
theorem D145_39 : decode (byt 145) 39 = .ok (.iload_n 2, 1) := by decide +kernel
theorem D145_40 : decode (byt 145) 40 = .ok (.iastore, 1) := by decide +kernel
theorem D145_41 : decode (byt 145) 41 = .ok (.aload_n 0, 1) := by decide +kernel
theorem D145_42 : decode (byt 145) 42 = .ok (.getfield 46, 3) := by decide +kernel
theorem D145_45 : decode (byt 145) 45 = .ok (.iload 4, 2) := by decide +kernel
theorem D145_47 : decode (byt 145) 47 = .ok (.iload_n 3, 1) := by decide +kernel
theorem D145_48 : decode (byt 145) 48 = .ok (.iastore, 1) := by decide +kernel
theorem D145_49 : decode (byt 145) 49 = .ok (.aload_n 0, 1) := by decide +kernel
theorem D145_50 : decode (byt 145) 50 = .ok (.getfield 49, 3) := by decide +kernel
theorem D145_53 : decode (byt 145) 53 = .ok (.iload 4, 2) := by decide +kernel
theorem D145_55 : decode (byt 145) 55 = .ok (.ldc 195, 2) := by decide +kernel
theorem D145_57 : decode (byt 145) 57 = .ok (.iload_n 1, 1) := by decide +kernel
theorem D145_58 : decode (byt 145) 58 = .ok (.imul, 1) := by decide +kernel
theorem D145_59 : decode (byt 145) 59 = .ok (.aload_n 0, 1) := by decide +kernel
theorem D145_60 : decode (byt 145) 60 = .ok (.getfield 59, 3) := by decide +kernel
theorem D145_63 : decode (byt 145) 63 = .ok (.iload_n 1, 1) := by decide +kernel
theorem D145_64 : decode (byt 145) 64 = .ok (.iaload, 1) := by decide +kernel
theorem D145_65 : decode (byt 145) 65 = .ok (.iadd, 1) := by decide +kernel
theorem D145_66 : decode (byt 145) 66 = .ok (.iastore, 1) := by decide +kernel
theorem D145_67 : decode (byt 145) 67 = .ok (.aload_n 0, 1) := by decide +kernel
theorem D145_68 : decode (byt 145) 68 = .ok (.getfield 52, 3) := by decide +kernel
theorem D145_71 : decode (byt 145) 71 = .ok (.iload 4, 2) := by decide +kernel
theorem D145_73 : decode (byt 145) 73 = .ok (.iconst 0, 1) := by decide +kernel
theorem D145_74 : decode (byt 145) 74 = .ok (.iastore, 1) := by decide +kernel
theorem D145_75 : decode (byt 145) 75 = .ok (.aload_n 0, 1) := by decide +kernel
theorem D145_76 : decode (byt 145) 76 = .ok (.getfield 34, 3) := by decide +kernel
theorem D145_79 : decode (byt 145) 79 = .ok (.iload_n 1, 1) := by decide +kernel
theorem D145_80 : decode (byt 145) 80 = .ok (.dup2, 1) := by decide +kernel
theorem D145_81 : decode (byt 145) 81 = .ok (.iaload, 1) := by decide +kernel
theorem D145_82 : decode (byt 145) 82 = .ok (.iconst 1, 1) := by decide +kernel
theorem D145_83 : decode (byt 145) 83 = .ok (.iadd, 1) := by decide +kernel
theorem D145_84 : decode (byt 145) 84 = .ok (.iastore, 1) := by decide +kernel
theorem D145_85 : decode (byt 145) 85 = .ok (.aload_n 0, 1) := by decide +kernel
theorem D145_86 : decode (byt 145) 86 = .ok (.getfield 34, 3) := by decide +kernel
theorem D145_89 : decode (byt 145) 89 = .ok (.iload_n 1, 1) := by decide +kernel
theorem D145_90 : decode (byt 145) 90 = .ok (.iaload, 1) := by decide +kernel
theorem D145_91 : decode (byt 145) 91 = .ok (.iconst 1, 1) := by decide +kernel
theorem D145_92 : decode (byt 145) 92 = .ok (.isub, 1) := by decide +kernel
theorem D145_93 : decode (byt 145) 93 = .ok (.ireturn, 1) := by decide +kernel
theorem D146_0 : decode (byt 146) 0 = .ok (.sipush 1500, 3) := by decide +kernel
theorem D146_3 : decode (byt 146) 3 = .ok (.iload_n 1, 1) := by decide +kernel
theorem D146_4 : decode (byt 146) 4 = .ok (.imul, 1) := by decide +kernel
theorem D146_5 : decode (byt 146) 5 = .ok (.iload_n 2, 1) := by decide +kernel
theorem D146_6 : decode (byt 146) 6 = .ok (.iadd, 1) := by decide +kernel
theorem D146_7 : decode (byt 146) 7 = .ok (.istore 4, 2) := by decide +kernel
theorem D146_9 : decode (byt 146) 9 = .ok (.aload_n 0, 1) := by decide +kernel
theorem D146_10 : decode (byt 146) 10 = .ok (.getfield 56, 3) := by decide +kernel
theorem D146_13 : decode (byt 146) 13 = .ok (.aload_n 0, 1) := by decide +kernel
theorem D146_14 : decode (byt 146) 14 = .ok (.getfield 49, 3) := by decide +kernel
theorem D146_17 : decode (byt 146) 17 = .ok (.iload 4, 2) := by decide +kernel
theorem D146_19 : decode (byt 146) 19 = .ok (.iaload, 1) := by decide +kernel
theorem D146_20 : decode (byt 146) 20 = .ok (.aload_n 0, 1) := by decide +kernel
theorem D146_21 : decode (byt 146) 21 = .ok (.getfield 52, 3) := by decide +kernel
theorem D146_24 : decode (byt 146) 24 = .ok (.iload 4, 2) := by decide +kernel
theorem D146_26 : decode (byt 146) 26 = .ok (.iaload, 1) := by decide +kernel
theorem D146_27 : decode (byt 146) 27 = .ok (.iadd, 1) := by decide +kernel
theorem D146_28 : decode (byt 146) 28 = .ok (.iload_n 3, 1) := by decide +kernel
theorem D146_29 : decode (byt 146) 29 = .ok (.iastore, 1) := by decide +kernel
theorem D146_30 : decode (byt 146) 30 = .ok (.aload_n 0, 1) := by decide +kernel
theorem D146_31 : decode (byt 146) 31 = .ok (.getfield 52, 3) := by decide +kernel
theorem D146_34 : decode (byt 146) 34 = .ok (.iload 4, 2) := by decide +kernel
theorem D146_36 : decode (byt 146) 36 = .ok (.dup2, 1) := by decide +kernel
theorem D146_37 : decode (byt 146) 37 = .ok (.iaload, 1) := by decide +kernel
theorem D146_38 : decode (byt 146) 38 = .ok (.iconst 1, 1) := by decide +kernel
theorem D146_39 : decode (byt 146) 39 = .ok (.iadd, 1) := by decide +kernel
theorem D146_40 : decode (byt 146) 40 = .ok (.iastore, 1) := by decide +kernel
theorem D146_41 : decode (byt 146) 41 = .ok (.aload_n 0, 1) := by decide +kernel
theorem D146_42 : decode (byt 146) 42 = .ok (.getfield 59, 3) := by decide +kernel
theorem D146_45 : decode (byt 146) 45 = .ok (.iload_n 1, 1) := by decide +kernel
theorem D146_46 : decode (byt 146) 46 = .ok (.dup2, 1) := by decide +kernel
theorem D146_47 : decode (byt 146) 47 = .ok (.iaload, 1) := by decide +kernel
theorem D146_48 : decode (byt 146) 48 = .ok (.iconst 1, 1) := by decide +kernel
theorem D146_49 : decode (byt 146) 49 = .ok (.iadd, 1) := by decide +kernel
theorem D146_50 : decode (byt 146) 50 = .ok (.iastore, 1) := by decide +kernel
theorem D146_51 : decode (byt 146) 51 = .ok (.return_, 1) := by decide +kernel
theorem D147_0 : decode (byt 147) 0 = .ok (.bipush 40, 2) := by decide +kernel
theorem D147_2 : decode (byt 147) 2 = .ok (.iload_n 1, 1) := by decide +kernel
theorem D147_3 : decode (byt 147) 3 = .ok (.imul, 1) := by decide +kernel
theorem D147_4 : decode (byt 147) 4 = .ok (.istore_n 3, 1) := by decide +kernel
theorem D147_5 : decode (byt 147) 5 = .ok (.iload_n 3, 1) := by decide +kernel
theorem D147_6 : decode (byt 147) 6 = .ok (.bipush 40, 2) := by decide +kernel
theorem D147_8 : decode (byt 147) 8 = .ok (.iload_n 1, 1) := by decide +kernel
theorem D147_9 : decode (byt 147) 9 = .ok (.imul, 1) := by decide +kernel
theorem D147_10 : decode (byt 147) 10 = .ok (.aload_n 0, 1) := by decide +kernel
theorem D147_11 : decode (byt 147) 11 = .ok (.getfield 68, 3) := by decide +kernel
theorem D147_14 : decode (byt 147) 14 = .ok (.iload_n 1, 1) := by decide +kernel
theorem D147_15 : decode (byt 147) 15 = .ok (.iaload, 1) := by decide +kernel
theorem D147_16 : decode (byt 147) 16 = .ok (.iadd, 1) := by decide +kernel
theorem D147_17 : decode (byt 147) 17 = .ok (.if_icmp .ge 20, 3) := by decide +kernel
theorem D147_20 : decode (byt 147) 20 = .ok (.aload_n 0, 1) := by decide +kernel
theorem D147_21 : decode (byt 147) 21 = .ok (.getfield 65, 3) := by decide +kernel
theorem D147_24 : decode (byt 147) 24 = .ok (.iload_n 3, 1) := by decide +kernel
theorem D147_25 : decode (byt 147) 25 = .ok (.iaload, 1) := by decide +kernel
theorem D147_26 : decode (byt 147) 26 = .ok (.iload_n 2, 1) := by decide +kernel
theorem D147_27 : decode (byt 147) 27 = .ok (.if_icmp .ne 4, 3) := by decide +kernel
theorem D147_30 : decode (byt 147) 30 = .ok (.return_, 1) := by decide +kernel
theorem D147_31 : decode (byt 147) 31 = .ok (.iinc 3 1, 3) := by decide +kernel
theorem D147_34 : decode (byt 147) 34 = .ok (.goto (-29), 3) := by decide +kernel
theorem D147_37 : decode (byt 147) 37 = .ok (.aload_n 0, 1) := by decide +kernel
theorem D147_38 : decode (byt 147) 38 = .ok (.getfield 65, 3) := by decide +kernel
theorem D147_41 : decode (byt 147) 41 = .ok (.bipush 40, 2) := by decide +kernel
theorem D147_43 : decode (byt 147) 43 = .ok (.iload_n 1, 1) := by decide +kernel
theorem D147_44 : decode (byt 147) 44 = .ok (.imul, 1) := by decide +kernel
theorem D147_45 : decode (byt 147) 45 = .ok (.aload_n 0, 1) := by decide +kernel
theorem D147_46 : decode (byt 147) 46 = .ok (.getfield 68, 3) := by decide +kernel
theorem D147_49 : decode (byt 147) 49 = .ok (.iload_n 1, 1) := by decide +kernel
theorem D147_50 : decode (byt 147) 50 = .ok (.iaload, 1) := by decide +kernel
theorem D147_51 : decode (byt 147) 51 = .ok (.iadd, 1) := by decide +kernel
theorem D147_52 : decode (byt 147) 52 = .ok (.iload_n 2, 1) := by decide +kernel
theorem D147_53 : decode (byt 147) 53 = .ok (.iastore, 1) := by decide +kernel
theorem D147_54 : decode (byt 147) 54 = .ok (.aload_n 0, 1) := by decide +kernel
theorem D147_55 : decode (byt 147) 55 = .ok (.getfield 68, 3) := by decide +kernel
theorem D147_58 : decode (byt 147) 58 = .ok (.iload_n 1, 1) := by decide +kernel
theorem D147_59 : decode (byt 147) 59 = .ok (.dup2, 1) := by decide +kernel
theorem D147_60 : decode (byt 147) 60 = .ok (.iaload, 1) := by decide +kernel
theorem D147_61 : decode (byt 147) 61 = .ok (.iconst 1, 1) := by decide +kernel
theorem D147_62 : decode (byt 147) 62 = .ok (.iadd, 1) := by decide +kernel
theorem D147_63 : decode (byt 147) 63 = .ok (.iastore, 1) := by decide +kernel
theorem D147_64 : decode (byt 147) 64 = .ok (.return_, 1) := by decide +kernel
theorem D148_0 : decode (byt 148) 0 = .ok (.aload_n 0, 1) := by decide +kernel
theorem D148_1 : decode (byt 148) 1 = .ok (.getfield 68, 3) := by decide +kernel
theorem D148_4 : decode (byt 148) 4 = .ok (.iload_n 1, 1) := by decide +kernel
theorem D148_5 : decode (byt 148) 5 = .ok (.iaload, 1) := by decide +kernel
theorem D148_6 : decode (byt 148) 6 = .ok (.istore_n 3, 1) := by decide +kernel
theorem D148_7 : decode (byt 148) 7 = .ok (.aload_n 0, 1) := by decide +kernel
theorem D148_8 : decode (byt 148) 8 = .ok (.getfield 68, 3) := by decide +kernel
theorem D148_11 : decode (byt 148) 11 = .ok (.iload_n 1, 1) := by decide +kernel
theorem D148_12 : decode (byt 148) 12 = .ok (.iconst 0, 1) := by decide +kernel
theorem D148_13 : decode (byt 148) 13 = .ok (.iastore, 1) := by decide +kernel
theorem D148_14 : decode (byt 148) 14 = .ok (.bipush 40, 2) := by decide +kernel
theorem D148_16 : decode (byt 148) 16 = .ok (.iload_n 1, 1) := by decide +kernel
theorem D148_17 : decode (byt 148) 17 = .ok (.imul, 1) := by decide +kernel
theorem D148_18 : decode (byt 148) 18 = .ok (.istore 4, 2) := by decide +kernel
theorem D148_20 : decode (byt 148) 20 = .ok (.iload 4, 2) := by decide +kernel
theorem D148_22 : decode (byt 148) 22 = .ok (.bipush 40, 2) := by decide +kernel
theorem D148_24 : decode (byt 148) 24 = .ok (.iload_n 1, 1) := by decide +kernel
theorem D148_25 : decode (byt 148) 25 = .ok (.imul, 1) := by decide +kernel
theorem D148_26 : decode (byt 148) 26 = .ok (.iload_n 3, 1) := by decide +kernel
theorem D148_27 : decode (byt 148) 27 = .ok (.iadd, 1) := by decide +kernel
theorem D148_28 : decode (byt 148) 28 = .ok (.if_icmp .ge 39, 3) := by decide +kernel
theorem D148_31 : decode (byt 148) 31 = .ok (.aload_n 0, 1) := by decide +kernel
theorem D148_32 : decode (byt 148) 32 = .ok (.getfield 65, 3) := by decide +kernel
theorem D148_35 : decode (byt 148) 35 = .ok (.iload 4, 2) := by decide +kernel
theorem D148_37 : decode (byt 148) 37 = .ok (.iaload, 1) := by decide +kernel
theorem D148_38 : decode (byt 148) 38 = .ok (.istore 5, 2) := by decide +kernel
theorem D148_40 : decode (byt 148) 40 = .ok (.iload 5, 2) := by decide +kernel
theorem D148_42 : decode (byt 148) 42 = .ok (.iload_n 2, 1) := by decide +kernel
theorem D148_43 : decode (byt 148) 43 = .ok (.iand, 1) := by decide +kernel
theorem D148_44 : decode (byt 148) 44 = .ok (.ifCond .ne 17, 3) := by decide +kernel
theorem D148_47 : decode (byt 148) 47 = .ok (.aload_n 0, 1) := by decide +kernel
theorem D148_48 : decode (byt 148) 48 = .ok (.iload_n 1, 1) := by decide +kernel
theorem D148_49 : decode (byt 148) 49 = .ok (.iload 5, 2) := by decide +kernel
theorem D148_51 : decode (byt 148) 51 = .ok (.iload_n 2, 1) := by decide +kernel
theorem D148_52 : decode (byt 148) 52 = .ok (.invokestatic 160, 3) := by decide +kernel
theorem D148_55 : decode (byt 148) 55 = .ok (.iconst (-1), 1) := by decide +kernel
theorem D148_56 : decode (byt 148) 56 = .ok (.ixor, 1) := by decide +kernel
theorem D148_57 : decode (byt 148) 57 = .ok (.iand, 1) := by decide +kernel
theorem D148_58 : decode (byt 148) 58 = .ok (.invokevirtual 196, 3) := by decide +kernel
theorem D148_61 : decode (byt 148) 61 = .ok (.iinc 4 1, 3) := by decide +kernel
theorem D148_64 : decode (byt 148) 64 = .ok (.goto (-44), 3) := by decide +kernel
theorem D148_67 : decode (byt 148) 67 = .ok (.return_, 1) := by decide +kernel
theorem D149_0 : decode (byt 149) 0 = .ok (.bipush 40, 2) := by decide +kernel
theorem D149_2 : decode (byt 149) 2 = .ok (.iload_n 1, 1) := by decide +kernel
theorem D149_3 : decode (byt 149) 3 = .ok (.imul, 1) := by decide +kernel
theorem D149_4 : decode (byt 149) 4 = .ok (.istore_n 3, 1) := by decide +kernel
theorem D149_5 : decode (byt 149) 5 = .ok (.iload_n 3, 1) := by decide +kernel
theorem D149_6 : decode (byt 149) 6 = .ok (.bipush 40, 2) := by decide +kernel
theorem D149_8 : decode (byt 149) 8 = .ok (.iload_n 1, 1) := by decide +kernel
theorem D149_9 : decode (byt 149) 9 = .ok (.imul, 1) := by decide +kernel
theorem D149_10 : decode (byt 149) 10 = .ok (.aload_n 0, 1) := by decide +kernel
theorem D149_11 : decode (byt 149) 11 = .ok (.getfield 68, 3) := by decide +kernel
theorem D149_14 : decode (byt 149) 14 = .ok (.iload_n 1, 1) := by decide +kernel
theorem D149_15 : decode (byt 149) 15 = .ok (.iaload, 1) := by decide +kernel
theorem D149_16 : decode (byt 149) 16 = .ok (.iadd, 1) := by decide +kernel
theorem D149_17 : decode (byt 149) 17 = .ok (.if_icmp .ge 29, 3) := by decide +kernel
theorem D149_20 : decode (byt 149) 20 = .ok (.aload_n 0, 1) := by decide +kernel
theorem D149_21 : decode (byt 149) 21 = .ok (.getfield 65, 3) := by decide +kernel
theorem D149_24 : decode (byt 149) 24 = .ok (.iload_n 3, 1) := by decide +kernel
theorem D149_25 : decode (byt 149) 25 = .ok (.iaload, 1) := by decide +kernel
theorem D149_26 : decode (byt 149) 26 = .ok (.invokestatic 177, 3) := by decide +kernel
theorem D149_29 : decode (byt 149) 29 = .ok (.iload_n 2, 1) := by decide +kernel
theorem D149_30 : decode (byt 149) 30 = .ok (.if_icmp .ne 10, 3) := by decide +kernel
theorem D149_33 : decode (byt 149) 33 = .ok (.aload_n 0, 1) := by decide +kernel
theorem D149_34 : decode (byt 149) 34 = .ok (.getfield 65, 3) := by decide +kernel
theorem D149_37 : decode (byt 149) 37 = .ok (.iload_n 3, 1) := by decide +kernel
theorem D149_38 : decode (byt 149) 38 = .ok (.iaload, 1) := by decide +kernel
theorem D149_39 : decode (byt 149) 39 = .ok (.ireturn, 1) := by decide +kernel
theorem D149_40 : decode (byt 149) 40 = .ok (.iinc 3 1, 3) := by decide +kernel
theorem D149_43 : decode (byt 149) 43 = .ok (.goto (-38), 3) := by decide +kernel
theorem D149_46 : decode (byt 149) 46 = .ok (.iconst (-1), 1) := by decide +kernel
theorem D149_47 : decode (byt 149) 47 = .ok (.ireturn, 1) := by decide +kernel
theorem D150_0 : decode (byt 150) 0 = .ok (.aload_n 0, 1) := by decide +kernel
theorem D150_1 : decode (byt 150) 1 = .ok (.iload_n 1, 1) := by decide +kernel
theorem D150_2 : decode (byt 150) 2 = .ok (.iconst 0, 1) := by decide +kernel
theorem D150_3 : decode (byt 150) 3 = .ok (.invokevirtual 200, 3) := by decide +kernel
theorem D150_6 : decode (byt 150) 6 = .ok (.ifCond .lt 5, 3) := by decide +kernel
theorem D150_9 : decode (byt 150) 9 = .ok (.iconst 0, 1) := by decide +kernel
theorem D150_10 : decode (byt 150) 10 = .ok (.ireturn, 1) := by decide +kernel
theorem D150_11 : decode (byt 150) 11 = .ok (.aload_n 0, 1) := by decide +kernel
theorem D150_12 : decode (byt 150) 12 = .ok (.iload_n 1, 1) := by decide +kernel
theorem D150_13 : decode (byt 150) 13 = .ok (.iconst 1, 1) := by decide +kernel
theorem D150_14 : decode (byt 150) 14 = .ok (.invokevirtual 200, 3) := by decide +kernel
theorem D150_17 : decode (byt 150) 17 = .ok (.istore_n 2, 1) := by decide +kernel
theorem D150_18 : decode (byt 150) 18 = .ok (.iload_n 2, 1) := by decide +kernel
theorem D150_19 : decode (byt 150) 19 = .ok (.ifCond .ge 5, 3) := by decide +kernel
theorem D150_22 : decode (byt 150) 22 = .ok (.iconst 1, 1) := by decide +kernel
theorem D150_23 : decode (byt 150) 23 = .ok (.ireturn, 1) := by decide +kernel
theorem D150_24 : decode (byt 150) 24 = .ok (.aload_n 0, 1) := by decide +kernel
theorem D150_25 : decode (byt 150) 25 = .ok (.getfield 71, 3) := by decide +kernel
theorem D150_28 : decode (byt 150) 28 = .ok (.bipush 12, 2) := by decide +kernel
theorem D150_30 : decode (byt 150) 30 = .ok (.iload_n 1, 1) := by decide +kernel
theorem D150_31 : decode (byt 150) 31 = .ok (.imul, 1) := by decide +kernel
theorem D150_32 : decode (byt 150) 32 = .ok (.aload_n 0, 1) := by decide +kernel
theorem D150_33 : decode (byt 150) 33 = .ok (.getfield 74, 3) := by decide +kernel
theorem D150_36 : decode (byt 150) 36 = .ok (.iload_n 1, 1) := by decide +kernel
theorem D150_37 : decode (byt 150) 37 = .ok (.iaload, 1) := by decide +kernel
theorem D150_38 : decode (byt 150) 38 = .ok (.iadd, 1) := by decide +kernel
theorem D150_39 : decode (byt 150) 39 = .ok (.iload_n 2, 1) := by decide +kernel
theorem D150_40 : decode (byt 150) 40 = .ok (.iastore, 1) := by decide +kernel
theorem D150_41 : decode (byt 150) 41 = .ok (.aload_n 0, 1) := by decide +kernel
theorem D150_42 : decode (byt 150) 42 = .ok (.getfield 74, 3) := by decide +kernel
theorem D150_45 : decode (byt 150) 45 = .ok (.iload_n 1, 1) := by decide +kernel
theorem D150_46 : decode (byt 150) 46 = .ok (.dup2, 1) := by decide +kernel
theorem D150_47 : decode (byt 150) 47 = .ok (.iaload, 1) := by decide +kernel
theorem D150_48 : decode (byt 150) 48 = .ok (.iconst 1, 1) := by decide +kernel
theorem D150_49 : decode (byt 150) 49 = .ok (.iadd, 1) := by decide +kernel
theorem D150_50 : decode (byt 150) 50 = .ok (.iastore, 1) := by decide +kernel
theorem D150_51 : decode (byt 150) 51 = .ok (.aload_n 0, 1) := by decide +kernel
theorem D150_52 : decode (byt 150) 52 = .ok (.iload_n 1, 1) := by decide +kernel
theorem D150_53 : decode (byt 150) 53 = .ok (.iload_n 2, 1) := by decide +kernel
theorem D150_54 : decode (byt 150) 54 = .ok (.invokevirtual 203, 3) := by decide +kernel
theorem D150_57 : decode (byt 150) 57 = .ok (.goto (-57), 3) := by decide +kernel
theorem D151_0 : decode (byt 151) 0 = .ok (.bipush 40, 2) := by decide +kernel
theorem D151_2 : decode (byt 151) 2 = .ok (.iload_n 1, 1) := by decide +kernel
theorem D151_3 : decode (byt 151) 3 = .ok (.imul, 1) := by decide +kernel
theorem D151_4 : decode (byt 151) 4 = .ok (.istore_n 2, 1) := by decide +kernel
theorem D151_5 : decode (byt 151) 5 = .ok (.aload_n 0, 1) := by decide +kernel
theorem D151_6 : decode (byt 151) 6 = .ok (.getfield 80, 3) := by decide +kernel
theorem D151_9 : decode (byt 151) 9 = .ok (.iload_n 1, 1) := by decide +kernel
theorem D151_10 : decode (byt 151) 10 = .ok (.iconst 0, 1) := by decide +kernel
theorem D151_11 : decode (byt 151) 11 = .ok (.iastore, 1) := by decide +kernel
theorem D151_12 : decode (byt 151) 12 = .ok (.iload_n 2, 1) := by decide +kernel
theorem D151_13 : decode (byt 151) 13 = .ok (.istore_n 3, 1) := by decide +kernel
theorem D151_14 : decode (byt 151) 14 = .ok (.iload_n 3, 1) := by decide +kernel
theorem D151_15 : decode (byt 151) 15 = .ok (.iload_n 2, 1) := by decide +kernel
theorem D151_16 : decode (byt 151) 16 = .ok (.aload_n 0, 1) := by decide +kernel
theorem D151_17 : decode (byt 151) 17 = .ok (.getfield 68, 3) := by decide +kernel
theorem D151_20 : decode (byt 151) 20 = .ok (.iload_n 1, 1) := by decide +kernel
theorem D151_21 : decode (byt 151) 21 = .ok (.iaload, 1) := by decide +kernel
theorem D151_22 : decode (byt 151) 22 = .ok (.iadd, 1) := by decide +kernel
theorem D151_23 : decode (byt 151) 23 = .ok (.if_icmp .ge 16, 3) := by decide +kernel
theorem D151_26 : decode (byt 151) 26 = .ok (.aload_n 0, 1) := by decide +kernel
theorem D151_27 : decode (byt 151) 27 = .ok (.getfield 77, 3) := by decide +kernel
theorem D151_30 : decode (byt 151) 30 = .ok (.iload_n 3, 1) := by decide +kernel
theorem D151_31 : decode (byt 151) 31 = .ok (.iconst (-1), 1) := by decide +kernel
theorem D151_32 : decode (byt 151) 32 = .ok (.iastore, 1) := by decide +kernel
theorem D151_33 : decode (byt 151) 33 = .ok (.iinc 3 1, 3) := by decide +kernel
theorem D151_36 : decode (byt 151) 36 = .ok (.goto (-22), 3) := by decide +kernel
theorem D151_39 : decode (byt 151) 39 = .ok (.iload_n 2, 1) := by decide +kernel
theorem D151_40 : decode (byt 151) 40 = .ok (.istore_n 3, 1) := by decide +kernel
theorem D151_41 : decode (byt 151) 41 = .ok (.iload_n 3, 1) := by decide +kernel
theorem D151_42 : decode (byt 151) 42 = .ok (.iload_n 2, 1) := by decide +kernel
theorem D151_43 : decode (byt 151) 43 = .ok (.aload_n 0, 1) := by decide +kernel
theorem D151_44 : decode (byt 151) 44 = .ok (.getfield 68, 3) := by decide +kernel
theorem D151_47 : decode (byt 151) 47 = .ok (.iload_n 1, 1) := by decide +kernel
theorem D151_48 : decode (byt 151) 48 = .ok (.iaload, 1) := by decide +kernel
theorem D151_49 : decode (byt 151) 49 = .ok (.iadd, 1) := by decide +kernel
theorem D151_50 : decode (byt 151) 50 = .ok (.if_icmp .ge 138, 3) := by decide +kernel
theorem D151_53 : decode (byt 151) 53 = .ok (.aload_n 0, 1) := by decide +kernel
theorem D151_54 : decode (byt 151) 54 = .ok (.getfield 77, 3) := by decide +kernel
theorem D151_57 : decode (byt 151) 57 = .ok (.iload_n 3, 1) := by decide +kernel
theorem D151_58 : decode (byt 151) 58 = .ok (.iaload, 1) := by decide +kernel
theorem D151_59 : decode (byt 151) 59 = .ok (.ifCond .lt 6, 3) := by decide +kernel
theorem D151_62 : decode (byt 151) 62 = .ok (.goto 120, 3) := by decide +kernel
theorem D151_65 : decode (byt 151) 65 = .ok (.aload_n 0, 1) := by decide +kernel
theorem D151_66 : decode (byt 151) 66 = .ok (.getfield 65, 3) := by decide +kernel
theorem D151_69 : decode (byt 151) 69 = .ok (.iload_n 3, 1) := by decide +kernel
theorem D151_70 : decode (byt 151) 70 = .ok (.iaload, 1) := by decide +kernel
theorem D151_71 : decode (byt 151) 71 = .ok (.invokestatic 183, 3) := by decide +kernel
theorem D151_74 : decode (byt 151) 74 = .ok (.istore 4, 2) := by decide +kernel
theorem D151_76 : decode (byt 151) 76 = .ok (.iconst 1, 1) := by decide +kernel
theorem D151_77 : decode (byt 151) 77 = .ok (.istore 5, 2) := by decide +kernel
theorem D151_79 : decode (byt 151) 79 = .ok (.iload 5, 2) := by decide +kernel
theorem D151_81 : decode (byt 151) 81 = .ok (.ifCond .eq 91, 3) := by decide +kernel
theorem D151_84 : decode (byt 151) 84 = .ok (.iconst 0, 1) := by decide +kernel
theorem D151_85 : decode (byt 151) 85 = .ok (.istore 5, 2) := by decide +kernel
theorem D151_87 : decode (byt 151) 87 = .ok (.iload_n 3, 1) := by decide +kernel
theorem D151_88 : decode (byt 151) 88 = .ok (.istore 6, 2) := by decide +kernel
theorem D151_90 : decode (byt 151) 90 = .ok (.iload 6, 2) := by decide +kernel
theorem D151_92 : decode (byt 151) 92 = .ok (.iload_n 2, 1) := by decide +kernel
theorem D151_93 : decode (byt 151) 93 = .ok (.aload_n 0, 1) := by decide +kernel
theorem D151_94 : decode (byt 151) 94 = .ok (.getfield 68, 3) := by decide +kernel
theorem D151_97 : decode (byt 151) 97 = .ok (.iload_n 1, 1) := by decide +kernel
theorem D151_98 : decode (byt 151) 98 = .ok (.iaload, 1) := by decide +kernel
theorem D151_99 : decode (byt 151) 99 = .ok (.iadd, 1) := by decide +kernel
theorem D151_100 : decode (byt 151) 100 = .ok (.if_icmp .ge 69, 3) := by decide +kernel
theorem D151_103 : decode (byt 151) 103 = .ok (.aload_n 0, 1) := by decide +kernel
theorem D151_104 : decode (byt 151) 104 = .ok (.getfield 77, 3) := by decide +kernel
theorem D151_107 : decode (byt 151) 107 = .ok (.iload 6, 2) := by decide +kernel
theorem D151_109 : decode (byt 151) 109 = .ok (.iaload, 1) := by decide +kernel
theorem D151_110 : decode (byt 151) 110 = .ok (.ifCond .ge 53, 3) := by decide +kernel
theorem D151_113 : decode (byt 151) 113 = .ok (.aload_n 0, 1) := by decide +kernel
theorem D151_114 : decode (byt 151) 114 = .ok (.getfield 65, 3) := by decide +kernel
theorem D151_117 : decode (byt 151) 117 = .ok (.iload 6, 2) := by decide +kernel
theorem D151_119 : decode (byt 151) 119 = .ok (.iaload, 1) := by decide +kernel
theorem D151_120 : decode (byt 151) 120 = .ok (.invokestatic 183, 3) := by decide +kernel
theorem D151_123 : decode (byt 151) 123 = .ok (.iload 4, 2) := by decide +kernel
theorem D151_125 : decode (byt 151) 125 = .ok (.iand, 1) := by decide +kernel
theorem D151_126 : decode (byt 151) 126 = .ok (.ifCond .ne 6, 3) := by decide +kernel
theorem D151_129 : decode (byt 151) 129 = .ok (.goto 34, 3) := by decide +kernel
theorem D151_132 : decode (byt 151) 132 = .ok (.aload_n 0, 1) := by decide +kernel
theorem D151_133 : decode (byt 151) 133 = .ok (.getfield 77, 3) := by decide +kernel
theorem D151_136 : decode (byt 151) 136 = .ok (.iload 6, 2) := by decide +kernel
theorem D151_138 : decode (byt 151) 138 = .ok (.aload_n 0, 1) := by decide +kernel
theorem D151_139 : decode (byt 151) 139 = .ok (.getfield 80, 3) := by decide +kernel
theorem D151_142 : decode (byt 151) 142 = .ok (.iload_n 1, 1) := by decide +kernel
theorem D151_143 : decode (byt 151) 143 = .ok (.iaload, 1) := by decide +kernel
theorem D151_144 : decode (byt 151) 144 = .ok (.iastore, 1) := by decide +kernel
theorem D151_145 : decode (byt 151) 145 = .ok (.iload 4, 2) := by decide +kernel
theorem D151_147 : decode (byt 151) 147 = .ok (.aload_n 0, 1) := by decide +kernel
theorem D151_148 : decode (byt 151) 148 = .ok (.getfield 65, 3) := by decide +kernel
theorem D151_151 : decode (byt 151) 151 = .ok (.iload 6, 2) := by decide +kernel
theorem D151_153 : decode (byt 151) 153 = .ok (.iaload, 1) := by decide +kernel
theorem D151_154 : decode (byt 151) 154 = .ok (.invokestatic 183, 3) := by decide +kernel
theorem D151_157 : decode (byt 151) 157 = .ok (.ior, 1) := by decide +kernel
theorem D151_158 : decode (byt 151) 158 = .ok (.istore 4, 2) := by decide +kernel
theorem D151_160 : decode (byt 151) 160 = .ok (.iconst 1, 1) := by decide +kernel
theorem D151_161 : decode (byt 151) 161 = .ok (.istore 5, 2) := by decide +kernel
theorem D151_163 : decode (byt 151) 163 = .ok (.iinc 6 1, 3) := by decide +kernel
theorem D151_166 : decode (byt 151) 166 = .ok (.goto (-76), 3) := by decide +kernel
theorem D151_169 : decode (byt 151) 169 = .ok (.goto (-90), 3) := by decide +kernel
theorem D151_172 : decode (byt 151) 172 = .ok (.aload_n 0, 1) := by decide +kernel
theorem D151_173 : decode (byt 151) 173 = .ok (.getfield 80, 3) := by decide +kernel
theorem D151_176 : decode (byt 151) 176 = .ok (.iload_n 1, 1) := by decide +kernel
theorem D151_177 : decode (byt 151) 177 = .ok (.dup2, 1) := by decide +kernel
theorem D151_178 : decode (byt 151) 178 = .ok (.iaload, 1) := by decide +kernel
theorem D151_179 : decode (byt 151) 179 = .ok (.iconst 1, 1) := by decide +kernel
theorem D151_180 : decode (byt 151) 180 = .ok (.iadd, 1) := by decide +kernel
theorem D151_181 : decode (byt 151) 181 = .ok (.iastore, 1) := by decide +kernel
theorem D151_182 : decode (byt 151) 182 = .ok (.iinc 3 1, 3) := by decide +kernel
theorem D151_185 : decode (byt 151) 185 = .ok (.goto (-144), 3) := by decide +kernel
theorem D151_188 : decode (byt 151) 188 = .ok (.return_, 1) := by decide +kernel
theorem D152_0 : decode (byt 152) 0 = .ok (.aload_n 0, 1) := by decide +kernel
theorem D152_1 : decode (byt 152) 1 = .ok (.getfield 206, 3) := by decide +kernel
theorem D152_4 : decode (byt 152) 4 = .ok (.iconst 1, 1) := by decide +kernel
theorem D152_5 : decode (byt 152) 5 = .ok (.isub, 1) := by decide +kernel
theorem D152_6 : decode (byt 152) 6 = .ok (.istore_n 1, 1) := by decide +kernel
theorem D152_7 : decode (byt 152) 7 = .ok (.aload_n 0, 1) := by decide +kernel
theorem D152_8 : decode (byt 152) 8 = .ok (.getfield 74, 3) := by decide +kernel
theorem D152_11 : decode (byt 152) 11 = .ok (.iload_n 1, 1) := by decide +kernel
theorem D152_12 : decode (byt 152) 12 = .ok (.iconst 0, 1) := by decide +kernel
theorem D152_13 : decode (byt 152) 13 = .ok (.iastore, 1) := by decide +kernel
theorem D152_14 : decode (byt 152) 14 = .ok (.aload_n 0, 1) := by decide +kernel
theorem D152_15 : decode (byt 152) 15 = .ok (.iload_n 1, 1) := by decide +kernel
theorem D152_16 : decode (byt 152) 16 = .ok (.invokevirtual 209, 3) := by decide +kernel
theorem D152_19 : decode (byt 152) 19 = .ok (.ifCond .ne 19, 3) := by decide +kernel
theorem D152_22 : decode (byt 152) 22 = .ok (.aload_n 0, 1) := by decide +kernel
theorem D152_23 : decode (byt 152) 23 = .ok (.dup, 1) := by decide +kernel
theorem D152_24 : decode (byt 152) 24 = .ok (.getfield 206, 3) := by decide +kernel
theorem D152_27 : decode (byt 152) 27 = .ok (.iconst 1, 1) := by decide +kernel
theorem D152_28 : decode (byt 152) 28 = .ok (.isub, 1) := by decide +kernel
theorem D152_29 : decode (byt 152) 29 = .ok (.putfield 206, 3) := by decide +kernel
theorem D152_32 : decode (byt 152) 32 = .ok (.aload_n 0, 1) := by decide +kernel
theorem D152_33 : decode (byt 152) 33 = .ok (.iconst 1, 1) := by decide +kernel
theorem D152_34 : decode (byt 152) 34 = .ok (.putfield 212, 3) := by decide +kernel
theorem D152_37 : decode (byt 152) 37 = .ok (.return_, 1) := by decide +kernel
theorem D152_38 : decode (byt 152) 38 = .ok (.aload_n 0, 1) := by decide +kernel
theorem D152_39 : decode (byt 152) 39 = .ok (.iload_n 1, 1) := by decide +kernel
theorem D152_40 : decode (byt 152) 40 = .ok (.invokevirtual 215, 3) := by decide +kernel
theorem D152_43 : decode (byt 152) 43 = .ok (.aload_n 0, 1) := by decide +kernel
theorem D152_44 : decode (byt 152) 44 = .ok (.getfield 83, 3) := by decide +kernel
theorem D152_47 : decode (byt 152) 47 = .ok (.iload_n 1, 1) := by decide +kernel
theorem D152_48 : decode (byt 152) 48 = .ok (.iconst 0, 1) := by decide +kernel
theorem D152_49 : decode (byt 152) 49 = .ok (.iastore, 1) := by decide +kernel
theorem D152_50 : decode (byt 152) 50 = .ok (.aload_n 0, 1) := by decide +kernel
theorem D152_51 : decode (byt 152) 51 = .ok (.getfield 98, 3) := by decide +kernel
theorem D152_54 : decode (byt 152) 54 = .ok (.iload_n 1, 1) := by decide +kernel
theorem D152_55 : decode (byt 152) 55 = .ok (.iconst 0, 1) := by decide +kernel
theorem D152_56 : decode (byt 152) 56 = .ok (.iastore, 1) := by decide +kernel
theorem D152_57 : decode (byt 152) 57 = .ok (.aload_n 0, 1) := by decide +kernel
theorem D152_58 : decode (byt 152) 58 = .ok (.iconst (-1), 1) := by decide +kernel
theorem D152_59 : decode (byt 152) 59 = .ok (.putfield 212, 3) := by decide +kernel
theorem D152_62 : decode (byt 152) 62 = .ok (.return_, 1) := by decide +kernel
theorem D153_0 : decode (byt 153) 0 = .ok (.iconst 0, 1) := by decide +kernel
theorem D153_1 : decode (byt 153) 1 = .ok (.istore_n 2, 1) := by decide +kernel
theorem D153_2 : decode (byt 153) 2 = .ok (.iload_n 2, 1) := by decide +kernel
theorem D153_3 : decode (byt 153) 3 = .ok (.aload_n 0, 1) := by decide +kernel
theorem D153_4 : decode (byt 153) 4 = .ok (.getfield 219, 3) := by decide +kernel
theorem D153_7 : decode (byt 153) 7 = .ok (.if_icmp .ge 100, 3) := by decide +kernel
theorem D153_10 : decode (byt 153) 10 = .ok (.aload_n 0, 1) := by decide +kernel
theorem D153_11 : decode (byt 153) 11 = .ok (.getfield 107, 3) := by decide +kernel
theorem D153_14 : decode (byt 153) 14 = .ok (.iload_n 2, 1) := by decide +kernel
theorem D153_15 : decode (byt 153) 15 = .ok (.iaload, 1) := by decide +kernel
theorem D153_16 : decode (byt 153) 16 = .ok (.aload_n 0, 1) := by decide +kernel
theorem D153_17 : decode (byt 153) 17 = .ok (.getfield 92, 3) := by decide +kernel
theorem D153_20 : decode (byt 153) 20 = .ok (.iload_n 1, 1) := by decide +kernel
theorem D153_21 : decode (byt 153) 21 = .ok (.iaload, 1) := by decide +kernel
theorem D153_22 : decode (byt 153) 22 = .ok (.if_icmp .ne 7, 3) := by decide +kernel
theorem D153_25 : decode (byt 153) 25 = .ok (.iconst 1, 1) := by decide +kernel
theorem D153_26 : decode (byt 153) 26 = .ok (.goto 4, 3) := by decide +kernel
theorem D153_29 : decode (byt 153) 29 = .ok (.iconst 0, 1) := by decide +kernel
theorem D153_30 : decode (byt 153) 30 = .ok (.istore_n 3, 1) := by decide +kernel
theorem D153_31 : decode (byt 153) 31 = .ok (.iconst 0, 1) := by decide +kernel
theorem D153_32 : decode (byt 153) 32 = .ok (.istore 4, 2) := by decide +kernel
theorem D153_34 : decode (byt 153) 34 = .ok (.iload 4, 2) := by decide +kernel
theorem D153_36 : decode (byt 153) 36 = .ok (.aload_n 0, 1) := by decide +kernel
theorem D153_37 : decode (byt 153) 37 = .ok (.getfield 92, 3) := by decide +kernel
theorem D153_40 : decode (byt 153) 40 = .ok (.iload_n 1, 1) := by decide +kernel
theorem D153_41 : decode (byt 153) 41 = .ok (.iaload, 1) := by decide +kernel
theorem D153_42 : decode (byt 153) 42 = .ok (.if_icmp .ge 48, 3) := by decide +kernel
theorem D153_45 : decode (byt 153) 45 = .ok (.iload_n 3, 1) := by decide +kernel
theorem D153_46 : decode (byt 153) 46 = .ok (.ifCond .eq 44, 3) := by decide +kernel
theorem D153_49 : decode (byt 153) 49 = .ok (.aload_n 0, 1) := by decide +kernel
theorem D153_50 : decode (byt 153) 50 = .ok (.getfield 114, 3) := by decide +kernel
theorem D153_53 : decode (byt 153) 53 = .ok (.aload_n 0, 1) := by decide +kernel
theorem D153_54 : decode (byt 153) 54 = .ok (.getfield 104, 3) := by decide +kernel
theorem D153_57 : decode (byt 153) 57 = .ok (.iload_n 2, 1) := by decide +kernel
theorem D153_58 : decode (byt 153) 58 = .ok (.iaload, 1) := by decide +kernel
theorem D153_59 : decode (byt 153) 59 = .ok (.iload 4, 2) := by decide +kernel
theorem D153_61 : decode (byt 153) 61 = .ok (.iadd, 1) := by decide +kernel
theorem D153_62 : decode (byt 153) 62 = .ok (.iaload, 1) := by decide +kernel
theorem D153_63 : decode (byt 153) 63 = .ok (.aload_n 0, 1) := by decide +kernel
theorem D153_64 : decode (byt 153) 64 = .ok (.getfield 89, 3) := by decide +kernel
theorem D153_67 : decode (byt 153) 67 = .ok (.bipush 40, 2) := by decide +kernel
theorem D153_69 : decode (byt 153) 69 = .ok (.iload_n 1, 1) := by decide +kernel
theorem D153_70 : decode (byt 153) 70 = .ok (.imul, 1) := by decide +kernel
theorem D153_71 : decode (byt 153) 71 = .ok (.iload 4, 2) := by decide +kernel
theorem D153_73 : decode (byt 153) 73 = .ok (.iadd, 1) := by decide +kernel
theorem D153_74 : decode (byt 153) 74 = .ok (.iaload, 1) := by decide +kernel
theorem D153_75 : decode (byt 153) 75 = .ok (.if_icmp .ne 7, 3) := by decide +kernel
theorem D153_78 : decode (byt 153) 78 = .ok (.iconst 1, 1) := by decide +kernel
theorem D153_79 : decode (byt 153) 79 = .ok (.goto 4, 3) := by decide +kernel
theorem D153_82 : decode (byt 153) 82 = .ok (.iconst 0, 1) := by decide +kernel
theorem D153_83 : decode (byt 153) 83 = .ok (.istore_n 3, 1) := by decide +kernel
theorem D153_84 : decode (byt 153) 84 = .ok (.iinc 4 1, 3) := by decide +kernel
theorem D153_87 : decode (byt 153) 87 = .ok (.goto (-53), 3) := by decide +kernel
theorem D153_90 : decode (byt 153) 90 = .ok (.iload_n 3, 1) := by decide +kernel
theorem D153_91 : decode (byt 153) 91 = .ok (.ifCond .eq 10, 3) := by decide +kernel
theorem D153_94 : decode (byt 153) 94 = .ok (.aload_n 0, 1) := by decide +kernel
theorem D153_95 : decode (byt 153) 95 = .ok (.getfield 110, 3) := by decide +kernel
theorem D153_98 : decode (byt 153) 98 = .ok (.iload_n 2, 1) := by decide +kernel
theorem D153_99 : decode (byt 153) 99 = .ok (.iaload, 1) := by decide +kernel
theorem D153_100 : decode (byt 153) 100 = .ok (.ireturn, 1) := by decide +kernel
theorem D153_101 : decode (byt 153) 101 = .ok (.iinc 2 1, 3) := by decide +kernel
theorem D153_104 : decode (byt 153) 104 = .ok (.goto (-102), 3) := by decide +kernel
theorem D153_107 : decode (byt 153) 107 = .ok (.iconst (-1), 1) := by decide +kernel
theorem D153_108 : decode (byt 153) 108 = .ok (.ireturn, 1) := by decide +kernel
theorem D154_0 : decode (byt 154) 0 = .ok (.aload_n 0, 1) := by decide +kernel
theorem D154_1 : decode (byt 154) 1 = .ok (.getfield 104, 3) := by decide +kernel
theorem D154_4 : decode (byt 154) 4 = .ok (.aload_n 0, 1) := by decide +kernel
theorem D154_5 : decode (byt 154) 5 = .ok (.getfield 219, 3) := by decide +kernel
theorem D154_8 : decode (byt 154) 8 = .ok (.aload_n 0, 1) := by decide +kernel
theorem D154_9 : decode (byt 154) 9 = .ok (.getfield 222, 3) := by decide +kernel
theorem D154_12 : decode (byt 154) 12 = .ok (.iastore, 1) := by decide +kernel
theorem D154_13 : decode (byt 154) 13 = .ok (.aload_n 0, 1) := by decide +kernel
theorem D154_14 : decode (byt 154) 14 = .ok (.getfield 107, 3) := by decide +kernel
theorem D154_17 : decode (byt 154) 17 = .ok (.aload_n 0, 1) := by decide +kernel
theorem D154_18 : decode (byt 154) 18 = .ok (.getfield 219, 3) := by decide +kernel
theorem D154_21 : decode (byt 154) 21 = .ok (.aload_n 0, 1) := by decide +kernel
theorem D154_22 : decode (byt 154) 22 = .ok (.getfield 92, 3) := by decide +kernel
theorem D154_25 : decode (byt 154) 25 = .ok (.iload_n 1, 1) := by decide +kernel
theorem D154_26 : decode (byt 154) 26 = .ok (.iaload, 1) := by decide +kernel
theorem D154_27 : decode (byt 154) 27 = .ok (.iastore, 1) := by decide +kernel
theorem D154_28 : decode (byt 154) 28 = .ok (.aload_n 0, 1) := by decide +kernel
theorem D154_29 : decode (byt 154) 29 = .ok (.getfield 110, 3) := by decide +kernel
theorem D154_32 : decode (byt 154) 32 = .ok (.aload_n 0, 1) := by decide +kernel
theorem D154_33 : decode (byt 154) 33 = .ok (.getfield 219, 3) := by decide +kernel
theorem D154_36 : decode (byt 154) 36 = .ok (.iload_n 2, 1) := by decide +kernel
theorem D154_37 : decode (byt 154) 37 = .ok (.iastore, 1) := by decide +kernel
theorem D154_38 : decode (byt 154) 38 = .ok (.aload_n 0, 1) := by decide +kernel
theorem D154_39 : decode (byt 154) 39 = .ok (.dup, 1) := by decide +kernel
theorem D154_40 : decode (byt 154) 40 = .ok (.getfield 219, 3) := by decide +kernel
theorem D154_43 : decode (byt 154) 43 = .ok (.iconst 1, 1) := by decide +kernel
theorem D154_44 : decode (byt 154) 44 = .ok (.iadd, 1) := by decide +kernel
theorem D154_45 : decode (byt 154) 45 = .ok (.putfield 219, 3) := by decide +kernel
theorem D154_48 : decode (byt 154) 48 = .ok (.iconst 0, 1) := by decide +kernel
theorem D154_49 : decode (byt 154) 49 = .ok (.istore_n 3, 1) := by decide +kernel
theorem D154_50 : decode (byt 154) 50 = .ok (.iload_n 3, 1) := by decide +kernel
theorem D154_51 : decode (byt 154) 51 = .ok (.aload_n 0, 1) := by decide +kernel
theorem D154_52 : decode (byt 154) 52 = .ok (.getfield 92, 3) := by decide +kernel
theorem D154_55 : decode (byt 154) 55 = .ok (.iload_n 1, 1) := by decide +kernel
theorem D154_56 : decode (byt 154) 56 = .ok (.iaload, 1) := by decide +kernel
theorem D154_57 : decode (byt 154) 57 = .ok (.if_icmp .ge 39, 3) := by decide +kernel
theorem D154_60 : decode (byt 154) 60 = .ok (.aload_n 0, 1) := by decide +kernel
theorem D154_61 : decode (byt 154) 61 = .ok (.getfield 114, 3) := by decide +kernel
theorem D154_64 : decode (byt 154) 64 = .ok (.aload_n 0, 1) := by decide +kernel
theorem D154_65 : decode (byt 154) 65 = .ok (.getfield 222, 3) := by decide +kernel
theorem D154_68 : decode (byt 154) 68 = .ok (.aload_n 0, 1) := by decide +kernel
theorem D154_69 : decode (byt 154) 69 = .ok (.getfield 89, 3) := by decide +kernel
theorem D154_72 : decode (byt 154) 72 = .ok (.bipush 40, 2) := by decide +kernel
theorem D154_74 : decode (byt 154) 74 = .ok (.iload_n 1, 1) := by decide +kernel
theorem D154_75 : decode (byt 154) 75 = .ok (.imul, 1) := by decide +kernel
theorem D154_76 : decode (byt 154) 76 = .ok (.iload_n 3, 1) := by decide +kernel
theorem D154_77 : decode (byt 154) 77 = .ok (.iadd, 1) := by decide +kernel
theorem D154_78 : decode (byt 154) 78 = .ok (.iaload, 1) := by decide +kernel
theorem D154_79 : decode (byt 154) 79 = .ok (.iastore, 1) := by decide +kernel
theorem D154_80 : decode (byt 154) 80 = .ok (.aload_n 0, 1) := by decide +kernel
theorem D154_81 : decode (byt 154) 81 = .ok (.dup, 1) := by decide +kernel
theorem D154_82 : decode (byt 154) 82 = .ok (.getfield 222, 3) := by decide +kernel
theorem D154_85 : decode (byt 154) 85 = .ok (.iconst 1, 1) := by decide +kernel
theorem D154_86 : decode (byt 154) 86 = .ok (.iadd, 1) := by decide +kernel
theorem D154_87 : decode (byt 154) 87 = .ok (.putfield 222, 3) := by decide +kernel
theorem D154_90 : decode (byt 154) 90 = .ok (.iinc 3 1, 3) := by decide +kernel
theorem D154_93 : decode (byt 154) 93 = .ok (.goto (-43), 3) := by decide +kernel
theorem D154_96 : decode (byt 154) 96 = .ok (.return_, 1) := by decide +kernel
theorem D155_0 : decode (byt 155) 0 = .ok (.iconst 0, 1) := by decide +kernel
theorem D155_1 : decode (byt 155) 1 = .ok (.istore_n 3, 1) := by decide +kernel
theorem D155_2 : decode (byt 155) 2 = .ok (.iconst 0, 1) := by decide +kernel
theorem D155_3 : decode (byt 155) 3 = .ok (.istore 4, 2) := by decide +kernel
theorem D155_5 : decode (byt 155) 5 = .ok (.iload 4, 2) := by decide +kernel
theorem D155_7 : decode (byt 155) 7 = .ok (.aload_n 0, 1) := by decide +kernel
theorem D155_8 : decode (byt 155) 8 = .ok (.getfield 92, 3) := by decide +kernel
theorem D155_11 : decode (byt 155) 11 = .ok (.iload_n 2, 1) := by decide +kernel
theorem D155_12 : decode (byt 155) 12 = .ok (.iaload, 1) := by decide +kernel
theorem D155_13 : decode (byt 155) 13 = .ok (.if_icmp .ge 27, 3) := by decide +kernel
theorem D155_16 : decode (byt 155) 16 = .ok (.iload_n 3, 1) := by decide +kernel
theorem D155_17 : decode (byt 155) 17 = .ok (.aload_n 0, 1) := by decide +kernel
theorem D155_18 : decode (byt 155) 18 = .ok (.getfield 89, 3) := by decide +kernel
theorem D155_21 : decode (byt 155) 21 = .ok (.bipush 40, 2) := by decide +kernel
theorem D155_23 : decode (byt 155) 23 = .ok (.iload_n 2, 1) := by decide +kernel
theorem D155_24 : decode (byt 155) 24 = .ok (.imul, 1) := by decide +kernel
theorem D155_25 : decode (byt 155) 25 = .ok (.iload 4, 2) := by decide +kernel
theorem D155_27 : decode (byt 155) 27 = .ok (.iadd, 1) := by decide +kernel
theorem D155_28 : decode (byt 155) 28 = .ok (.iaload, 1) := by decide +kernel
theorem D155_29 : decode (byt 155) 29 = .ok (.invokestatic 183, 3) := by decide +kernel
theorem D155_32 : decode (byt 155) 32 = .ok (.ior, 1) := by decide +kernel
theorem D155_33 : decode (byt 155) 33 = .ok (.istore_n 3, 1) := by decide +kernel
theorem D155_34 : decode (byt 155) 34 = .ok (.iinc 4 1, 3) := by decide +kernel
theorem D155_37 : decode (byt 155) 37 = .ok (.goto (-32), 3) := by decide +kernel
theorem D155_40 : decode (byt 155) 40 = .ok (.iload_n 3, 1) := by decide +kernel
theorem D155_41 : decode (byt 155) 41 = .ok (.aload_n 0, 1) := by decide +kernel
theorem D155_42 : decode (byt 155) 42 = .ok (.getfield 19, 3) := by decide +kernel
theorem D155_45 : decode (byt 155) 45 = .ok (.iload_n 1, 1) := by decide +kernel
theorem D155_46 : decode (byt 155) 46 = .ok (.iaload, 1) := by decide +kernel
theorem D155_47 : decode (byt 155) 47 = .ok (.iand, 1) := by decide +kernel
theorem D155_48 : decode (byt 155) 48 = .ok (.ifCond .eq 12, 3) := by decide +kernel
theorem D155_51 : decode (byt 155) 51 = .ok (.iload_n 3, 1) := by decide +kernel
theorem D155_52 : decode (byt 155) 52 = .ok (.aload_n 0, 1) := by decide +kernel
theorem D155_53 : decode (byt 155) 53 = .ok (.getfield 19, 3) := by decide +kernel
theorem D155_56 : decode (byt 155) 56 = .ok (.iload_n 1, 1) := by decide +kernel
theorem D155_57 : decode (byt 155) 57 = .ok (.iaload, 1) := by decide +kernel
theorem D155_58 : decode (byt 155) 58 = .ok (.iand, 1) := by decide +kernel
theorem D155_59 : decode (byt 155) 59 = .ok (.istore_n 3, 1) := by decide +kernel
theorem D155_60 : decode (byt 155) 60 = .ok (.iconst (-1), 1) := by decide +kernel
theorem D155_61 : decode (byt 155) 61 = .ok (.istore 4, 2) := by decide +kernel
theorem D155_63 : decode (byt 155) 63 = .ok (.iconst 0, 1) := by decide +kernel
theorem D155_64 : decode (byt 155) 64 = .ok (.istore 5, 2) := by decide +kernel
theorem D155_66 : decode (byt 155) 66 = .ok (.iconst 0, 1) := by decide +kernel
theorem D155_67 : decode (byt 155) 67 = .ok (.istore 6, 2) := by decide +kernel
theorem D155_69 : decode (byt 155) 69 = .ok (.iload 6, 2) := by decide +kernel
theorem D155_71 : decode (byt 155) 71 = .ok (.bipush 12, 2) := by decide +kernel
theorem D155_73 : decode (byt 155) 73 = .ok (.if_icmp .ge 84, 3) := by decide +kernel
theorem D155_76 : decode (byt 155) 76 = .ok (.iconst 0, 1) := by decide +kernel
theorem D155_77 : decode (byt 155) 77 = .ok (.istore 7, 2) := by decide +kernel
theorem D155_79 : decode (byt 155) 79 = .ok (.iconst 0, 1) := by decide +kernel
theorem D155_80 : decode (byt 155) 80 = .ok (.istore 8, 2) := by decide +kernel
theorem D155_82 : decode (byt 155) 82 = .ok (.iload 8, 2) := by decide +kernel
theorem D155_84 : decode (byt 155) 84 = .ok (.aload_n 0, 1) := by decide +kernel
theorem D155_85 : decode (byt 155) 85 = .ok (.getfield 92, 3) := by decide +kernel
theorem D155_88 : decode (byt 155) 88 = .ok (.iload_n 2, 1) := by decide +kernel
theorem D155_89 : decode (byt 155) 89 = .ok (.iaload, 1) := by decide +kernel
theorem D155_90 : decode (byt 155) 90 = .ok (.if_icmp .ge 34, 3) := by decide +kernel
theorem D155_93 : decode (byt 155) 93 = .ok (.iload 7, 2) := by decide +kernel
theorem D155_95 : decode (byt 155) 95 = .ok (.aload_n 0, 1) := by decide +kernel
theorem D155_96 : decode (byt 155) 96 = .ok (.getfield 89, 3) := by decide +kernel
theorem D155_99 : decode (byt 155) 99 = .ok (.bipush 40, 2) := by decide +kernel
theorem D155_101 : decode (byt 155) 101 = .ok (.iload_n 2, 1) := by decide +kernel
theorem D155_102 : decode (byt 155) 102 = .ok (.imul, 1) := by decide +kernel
theorem D155_103 : decode (byt 155) 103 = .ok (.iload 8, 2) := by decide +kernel
theorem D155_105 : decode (byt 155) 105 = .ok (.iadd, 1) := by decide +kernel
theorem D155_106 : decode (byt 155) 106 = .ok (.iaload, 1) := by decide +kernel
theorem D155_107 : decode (byt 155) 107 = .ok (.invokestatic 183, 3) := by decide +kernel
theorem D155_110 : decode (byt 155) 110 = .ok (.iload 6, 2) := by decide +kernel
theorem D155_112 : decode (byt 155) 112 = .ok (.ishr, 1) := by decide +kernel
theorem D155_113 : decode (byt 155) 113 = .ok (.iconst 1, 1) := by decide +kernel
theorem D155_114 : decode (byt 155) 114 = .ok (.iand, 1) := by decide +kernel
theorem D155_115 : decode (byt 155) 115 = .ok (.iadd, 1) := by decide +kernel
theorem D155_116 : decode (byt 155) 116 = .ok (.istore 7, 2) := by decide +kernel
theorem D155_118 : decode (byt 155) 118 = .ok (.iinc 8 1, 3) := by decide +kernel
theorem D155_121 : decode (byt 155) 121 = .ok (.goto (-39), 3) := by decide +kernel
theorem D155_124 : decode (byt 155) 124 = .ok (.iload_n 3, 1) := by decide +kernel
theorem D155_125 : decode (byt 155) 125 = .ok (.iload 6, 2) := by decide +kernel
theorem D155_127 : decode (byt 155) 127 = .ok (.ishr, 1) := by decide +kernel
theorem D155_128 : decode (byt 155) 128 = .ok (.iconst 1, 1) := by decide +kernel
theorem D155_129 : decode (byt 155) 129 = .ok (.iand, 1) := by decide +kernel
theorem D155_130 : decode (byt 155) 130 = .ok (.ifCond .eq 21, 3) := by decide +kernel
theorem D155_133 : decode (byt 155) 133 = .ok (.iload 7, 2) := by decide +kernel
theorem D155_135 : decode (byt 155) 135 = .ok (.iload 5, 2) := by decide +kernel
theorem D155_137 : decode (byt 155) 137 = .ok (.if_icmp .gt 6, 3) := by decide +kernel
theorem D155_140 : decode (byt 155) 140 = .ok (.goto 11, 3) := by decide +kernel
theorem D155_143 : decode (byt 155) 143 = .ok (.iload 7, 2) := by decide +kernel
theorem D155_145 : decode (byt 155) 145 = .ok (.istore 5, 2) := by decide +kernel
theorem D155_147 : decode (byt 155) 147 = .ok (.iload 6, 2) := by decide +kernel
theorem D155_149 : decode (byt 155) 149 = .ok (.istore 4, 2) := by decide +kernel
theorem D155_151 : decode (byt 155) 151 = .ok (.iinc 6 1, 3) := by decide +kernel
theorem D155_154 : decode (byt 155) 154 = .ok (.goto (-85), 3) := by decide +kernel
theorem D155_157 : decode (byt 155) 157 = .ok (.iload 4, 2) := by decide +kernel
theorem D155_159 : decode (byt 155) 159 = .ok (.ireturn, 1) := by decide +kernel
theorem D156_0 : decode (byt 156) 0 = .ok (.aload_n 0, 1) := by decide +kernel
theorem D156_1 : decode (byt 156) 1 = .ok (.getfield 68, 3) := by decide +kernel
theorem D156_4 : decode (byt 156) 4 = .ok (.iload_n 1, 1) := by decide +kernel
theorem D156_5 : decode (byt 156) 5 = .ok (.iconst 1, 1) := by decide +kernel
theorem D156_6 : decode (byt 156) 6 = .ok (.iadd, 1) := by decide +kernel
theorem D156_7 : decode (byt 156) 7 = .ok (.iconst 0, 1) := by decide +kernel
theorem D156_8 : decode (byt 156) 8 = .ok (.iastore, 1) := by decide +kernel
theorem D156_9 : decode (byt 156) 9 = .ok (.iconst 0, 1) := by decide +kernel
theorem D156_10 : decode (byt 156) 10 = .ok (.istore_n 3, 1) := by decide +kernel
theorem D156_11 : decode (byt 156) 11 = .ok (.iload_n 3, 1) := by decide +kernel
theorem D156_12 : decode (byt 156) 12 = .ok (.aload_n 0, 1) := by decide +kernel
theorem D156_13 : decode (byt 156) 13 = .ok (.getfield 92, 3) := by decide +kernel
theorem D156_16 : decode (byt 156) 16 = .ok (.iload_n 1, 1) := by decide +kernel
theorem D156_17 : decode (byt 156) 17 = .ok (.iaload, 1) := by decide +kernel
theorem D156_18 : decode (byt 156) 18 = .ok (.if_icmp .ge 45, 3) := by decide +kernel
theorem D156_21 : decode (byt 156) 21 = .ok (.aload_n 0, 1) := by decide +kernel
theorem D156_22 : decode (byt 156) 22 = .ok (.getfield 89, 3) := by decide +kernel
theorem D156_25 : decode (byt 156) 25 = .ok (.bipush 40, 2) := by decide +kernel
theorem D156_27 : decode (byt 156) 27 = .ok (.iload_n 1, 1) := by decide +kernel
theorem D156_28 : decode (byt 156) 28 = .ok (.imul, 1) := by decide +kernel
theorem D156_29 : decode (byt 156) 29 = .ok (.iload_n 3, 1) := by decide +kernel
theorem D156_30 : decode (byt 156) 30 = .ok (.iadd, 1) := by decide +kernel
theorem D156_31 : decode (byt 156) 31 = .ok (.iaload, 1) := by decide +kernel
theorem D156_32 : decode (byt 156) 32 = .ok (.istore 4, 2) := by decide +kernel
theorem D156_34 : decode (byt 156) 34 = .ok (.iload 4, 2) := by decide +kernel
theorem D156_36 : decode (byt 156) 36 = .ok (.iload_n 2, 1) := by decide +kernel
theorem D156_37 : decode (byt 156) 37 = .ok (.iand, 1) := by decide +kernel
theorem D156_38 : decode (byt 156) 38 = .ok (.ifCond .ne 19, 3) := by decide +kernel
theorem D156_41 : decode (byt 156) 41 = .ok (.aload_n 0, 1) := by decide +kernel
theorem D156_42 : decode (byt 156) 42 = .ok (.iload_n 1, 1) := by decide +kernel
theorem D156_43 : decode (byt 156) 43 = .ok (.iconst 1, 1) := by decide +kernel
theorem D156_44 : decode (byt 156) 44 = .ok (.iadd, 1) := by decide +kernel
theorem D156_45 : decode (byt 156) 45 = .ok (.iload 4, 2) := by decide +kernel
theorem D156_47 : decode (byt 156) 47 = .ok (.iload_n 2, 1) := by decide +kernel
theorem D156_48 : decode (byt 156) 48 = .ok (.invokestatic 160, 3) := by decide +kernel
theorem D156_51 : decode (byt 156) 51 = .ok (.iconst (-1), 1) := by decide +kernel
theorem D156_52 : decode (byt 156) 52 = .ok (.ixor, 1) := by decide +kernel
theorem D156_53 : decode (byt 156) 53 = .ok (.iand, 1) := by decide +kernel
theorem D156_54 : decode (byt 156) 54 = .ok (.invokevirtual 196, 3) := by decide +kernel
theorem D156_57 : decode (byt 156) 57 = .ok (.iinc 3 1, 3) := by decide +kernel
theorem D156_60 : decode (byt 156) 60 = .ok (.goto (-49), 3) := by decide +kernel
theorem D156_63 : decode (byt 156) 63 = .ok (.aload_n 0, 1) := by decide +kernel
theorem D156_64 : decode (byt 156) 64 = .ok (.dup, 1) := by decide +kernel
theorem D156_65 : decode (byt 156) 65 = .ok (.getfield 206, 3) := by decide +kernel
theorem D156_68 : decode (byt 156) 68 = .ok (.iconst 1, 1) := by decide +kernel
theorem D156_69 : decode (byt 156) 69 = .ok (.iadd, 1) := by decide +kernel
theorem D156_70 : decode (byt 156) 70 = .ok (.putfield 206, 3) := by decide +kernel
theorem D156_73 : decode (byt 156) 73 = .ok (.aload_n 0, 1) := by decide +kernel
theorem D156_74 : decode (byt 156) 74 = .ok (.invokevirtual 225, 3) := by decide +kernel
theorem D156_77 : decode (byt 156) 77 = .ok (.return_, 1) := by decide +kernel
theorem D157_0 : decode (byt 157) 0 = .ok (.iconst 0, 1) := by decide +kernel
theorem D157_1 : decode (byt 157) 1 = .ok (.istore_n 3, 1) := by decide +kernel
theorem D157_2 : decode (byt 157) 2 = .ok (.iload_n 2, 1) := by decide +kernel
theorem D157_3 : decode (byt 157) 3 = .ok (.iload_n 3, 1) := by decide +kernel
theorem D157_4 : decode (byt 157) 4 = .ok (.ishr, 1) := by decide +kernel
theorem D157_5 : decode (byt 157) 5 = .ok (.iconst 1, 1) := by decide +kernel
theorem D157_6 : decode (byt 157) 6 = .ok (.iand, 1) := by decide +kernel
theorem D157_7 : decode (byt 157) 7 = .ok (.ifCond .ne 9, 3) := by decide +kernel
theorem D157_10 : decode (byt 157) 10 = .ok (.iinc 3 1, 3) := by decide +kernel
theorem D157_13 : decode (byt 157) 13 = .ok (.goto (-11), 3) := by decide +kernel
theorem D157_16 : decode (byt 157) 16 = .ok (.aload_n 0, 1) := by decide +kernel
theorem D157_17 : decode (byt 157) 17 = .ok (.getfield 62, 3) := by decide +kernel
theorem D157_20 : decode (byt 157) 20 = .ok (.iload_n 3, 1) := by decide +kernel
theorem D157_21 : decode (byt 157) 21 = .ok (.iaload, 1) := by decide +kernel
theorem D157_22 : decode (byt 157) 22 = .ok (.ifCond .ge 31, 3) := by decide +kernel
theorem D157_25 : decode (byt 157) 25 = .ok (.aload_n 0, 1) := by decide +kernel
theorem D157_26 : decode (byt 157) 26 = .ok (.getfield 62, 3) := by decide +kernel
theorem D157_29 : decode (byt 157) 29 = .ok (.iload_n 3, 1) := by decide +kernel
theorem D157_30 : decode (byt 157) 30 = .ok (.aload_n 0, 1) := by decide +kernel
theorem D157_31 : decode (byt 157) 31 = .ok (.iload_n 1, 1) := by decide +kernel
theorem D157_32 : decode (byt 157) 32 = .ok (.iconst 2, 1) := by decide +kernel
theorem D157_33 : decode (byt 157) 33 = .ok (.iload_n 3, 1) := by decide +kernel
theorem D157_34 : decode (byt 157) 34 = .ok (.bipush 12, 2) := by decide +kernel
theorem D157_36 : decode (byt 157) 36 = .ok (.if_icmp .ge 9, 3) := by decide +kernel
theorem D157_39 : decode (byt 157) 39 = .ok (.iload_n 3, 1) := by decide +kernel
theorem D157_40 : decode (byt 157) 40 = .ok (.iconst 1, 1) := by decide +kernel
theorem D157_41 : decode (byt 157) 41 = .ok (.iadd, 1) := by decide +kernel
theorem D157_42 : decode (byt 157) 42 = .ok (.goto 7, 3) := by decide +kernel
theorem D157_45 : decode (byt 157) 45 = .ok (.bipush 11, 2) := by decide +kernel
theorem D157_47 : decode (byt 157) 47 = .ok (.iload_n 3, 1) := by decide +kernel
theorem D157_48 : decode (byt 157) 48 = .ok (.isub, 1) := by decide +kernel
theorem D157_49 : decode (byt 157) 49 = .ok (.invokevirtual 228, 3) := by decide +kernel
theorem D157_52 : decode (byt 157) 52 = .ok (.iastore, 1) := by decide +kernel
theorem D157_53 : decode (byt 157) 53 = .ok (.aload_n 0, 1) := by decide +kernel
theorem D157_54 : decode (byt 157) 54 = .ok (.getfield 62, 3) := by decide +kernel
theorem D157_57 : decode (byt 157) 57 = .ok (.iload_n 3, 1) := by decide +kernel
theorem D157_58 : decode (byt 157) 58 = .ok (.iaload, 1) := by decide +kernel
theorem D157_59 : decode (byt 157) 59 = .ok (.ireturn, 1) := by decide +kernel
theorem D158_0 : decode (byt 158) 0 = .ok (.iconst 0, 1) := by decide +kernel
theorem D158_1 : decode (byt 158) 1 = .ok (.istore_n 3, 1) := by decide +kernel
theorem D158_2 : decode (byt 158) 2 = .ok (.iload_n 3, 1) := by decide +kernel
theorem D158_3 : decode (byt 158) 3 = .ok (.aload_n 0, 1) := by decide +kernel
theorem D158_4 : decode (byt 158) 4 = .ok (.getfield 74, 3) := by decide +kernel
theorem D158_7 : decode (byt 158) 7 = .ok (.iload_n 2, 1) := by decide +kernel
theorem D158_8 : decode (byt 158) 8 = .ok (.iaload, 1) := by decide +kernel
theorem D158_9 : decode (byt 158) 9 = .ok (.if_icmp .ge 36, 3) := by decide +kernel
theorem D158_12 : decode (byt 158) 12 = .ok (.aload_n 0, 1) := by decide +kernel
theorem D158_13 : decode (byt 158) 13 = .ok (.getfield 71, 3) := by decide +kernel
theorem D158_16 : decode (byt 158) 16 = .ok (.bipush 12, 2) := by decide +kernel
theorem D158_18 : decode (byt 158) 18 = .ok (.iload_n 2, 1) := by decide +kernel
theorem D158_19 : decode (byt 158) 19 = .ok (.imul, 1) := by decide +kernel
theorem D158_20 : decode (byt 158) 20 = .ok (.iload_n 3, 1) := by decide +kernel
theorem D158_21 : decode (byt 158) 21 = .ok (.iadd, 1) := by decide +kernel
theorem D158_22 : decode (byt 158) 22 = .ok (.aload_n 0, 1) := by decide +kernel
theorem D158_23 : decode (byt 158) 23 = .ok (.iload_n 1, 1) := by decide +kernel
theorem D158_24 : decode (byt 158) 24 = .ok (.aload_n 0, 1) := by decide +kernel
theorem D158_25 : decode (byt 158) 25 = .ok (.getfield 71, 3) := by decide +kernel
theorem D158_28 : decode (byt 158) 28 = .ok (.bipush 12, 2) := by decide +kernel
theorem D158_30 : decode (byt 158) 30 = .ok (.iload_n 2, 1) := by decide +kernel
theorem D158_31 : decode (byt 158) 31 = .ok (.imul, 1) := by decide +kernel
theorem D158_32 : decode (byt 158) 32 = .ok (.iload_n 3, 1) := by decide +kernel
theorem D158_33 : decode (byt 158) 33 = .ok (.iadd, 1) := by decide +kernel
theorem D158_34 : decode (byt 158) 34 = .ok (.iaload, 1) := by decide +kernel
theorem D158_35 : decode (byt 158) 35 = .ok (.invokevirtual 232, 3) := by decide +kernel
theorem D158_38 : decode (byt 158) 38 = .ok (.iastore, 1) := by decide +kernel
theorem D158_39 : decode (byt 158) 39 = .ok (.iinc 3 1, 3) := by decide +kernel
theorem D158_42 : decode (byt 158) 42 = .ok (.goto (-40), 3) := by decide +kernel
theorem D158_45 : decode (byt 158) 45 = .ok (.aload_n 0, 1) := by decide +kernel
theorem D158_46 : decode (byt 158) 46 = .ok (.getfield 74, 3) := by decide +kernel
theorem D158_49 : decode (byt 158) 49 = .ok (.iload_n 2, 1) := by decide +kernel
theorem D158_50 : decode (byt 158) 50 = .ok (.iaload, 1) := by decide +kernel
theorem D158_51 : decode (byt 158) 51 = .ok (.aload_n 0, 1) := by decide +kernel
theorem D158_52 : decode (byt 158) 52 = .ok (.getfield 80, 3) := by decide +kernel
theorem D158_55 : decode (byt 158) 55 = .ok (.iload_n 2, 1) := by decide +kernel
theorem D158_56 : decode (byt 158) 56 = .ok (.iaload, 1) := by decide +kernel
theorem D158_57 : decode (byt 158) 57 = .ok (.iadd, 1) := by decide +kernel
theorem D158_58 : decode (byt 158) 58 = .ok (.istore_n 3, 1) := by decide +kernel
theorem D158_59 : decode (byt 158) 59 = .ok (.aload_n 0, 1) := by decide +kernel
theorem D158_60 : decode (byt 158) 60 = .ok (.dup, 1) := by decide +kernel
theorem D158_61 : decode (byt 158) 61 = .ok (.getfield 206, 3) := by decide +kernel
theorem D158_64 : decode (byt 158) 64 = .ok (.iconst 1, 1) := by decide +kernel
theorem D158_65 : decode (byt 158) 65 = .ok (.isub, 1) := by decide +kernel
theorem D158_66 : decode (byt 158) 66 = .ok (.putfield 206, 3) := by decide +kernel
theorem D158_69 : decode (byt 158) 69 = .ok (.iload_n 3, 1) := by decide +kernel
theorem D158_70 : decode (byt 158) 70 = .ok (.ifCond .ne 11, 3) := by decide +kernel
theorem D158_73 : decode (byt 158) 73 = .ok (.aload_n 0, 1) := by decide +kernel
theorem D158_74 : decode (byt 158) 74 = .ok (.iconst 0, 1) := by decide +kernel
theorem D158_75 : decode (byt 158) 75 = .ok (.putfield 212, 3) := by decide +kernel
theorem D158_78 : decode (byt 158) 78 = .ok (.goto 147, 3) := by decide +kernel
theorem D158_81 : decode (byt 158) 81 = .ok (.iload_n 3, 1) := by decide +kernel
theorem D158_82 : decode (byt 158) 82 = .ok (.iconst 1, 1) := by decide +kernel
theorem D158_83 : decode (byt 158) 83 = .ok (.if_icmp .ne 41, 3) := by decide +kernel
theorem D158_86 : decode (byt 158) 86 = .ok (.aload_n 0, 1) := by decide +kernel
theorem D158_87 : decode (byt 158) 87 = .ok (.aload_n 0, 1) := by decide +kernel
theorem D158_88 : decode (byt 158) 88 = .ok (.getfield 74, 3) := by decide +kernel
theorem D158_91 : decode (byt 158) 91 = .ok (.iload_n 2, 1) := by decide +kernel
theorem D158_92 : decode (byt 158) 92 = .ok (.iaload, 1) := by decide +kernel
theorem D158_93 : decode (byt 158) 93 = .ok (.iconst 1, 1) := by decide +kernel
theorem D158_94 : decode (byt 158) 94 = .ok (.if_icmp .ne 15, 3) := by decide +kernel
theorem D158_97 : decode (byt 158) 97 = .ok (.aload_n 0, 1) := by decide +kernel
theorem D158_98 : decode (byt 158) 98 = .ok (.getfield 71, 3) := by decide +kernel
theorem D158_101 : decode (byt 158) 101 = .ok (.bipush 12, 2) := by decide +kernel
theorem D158_103 : decode (byt 158) 103 = .ok (.iload_n 2, 1) := by decide +kernel
theorem D158_104 : decode (byt 158) 104 = .ok (.imul, 1) := by decide +kernel
theorem D158_105 : decode (byt 158) 105 = .ok (.iaload, 1) := by decide +kernel
theorem D158_106 : decode (byt 158) 106 = .ok (.goto 12, 3) := by decide +kernel
theorem D158_109 : decode (byt 158) 109 = .ok (.aload_n 0, 1) := by decide +kernel
theorem D158_110 : decode (byt 158) 110 = .ok (.getfield 86, 3) := by decide +kernel
theorem D158_113 : decode (byt 158) 113 = .ok (.bipush 12, 2) := by decide +kernel
theorem D158_115 : decode (byt 158) 115 = .ok (.iload_n 2, 1) := by decide +kernel
theorem D158_116 : decode (byt 158) 116 = .ok (.imul, 1) := by decide +kernel
theorem D158_117 : decode (byt 158) 117 = .ok (.iaload, 1) := by decide +kernel
theorem D158_118 : decode (byt 158) 118 = .ok (.putfield 212, 3) := by decide +kernel
theorem D158_121 : decode (byt 158) 121 = .ok (.goto 104, 3) := by decide +kernel
theorem D158_124 : decode (byt 158) 124 = .ok (.aload_n 0, 1) := by decide +kernel
theorem D158_125 : decode (byt 158) 125 = .ok (.aload_n 0, 1) := by decide +kernel
theorem D158_126 : decode (byt 158) 126 = .ok (.iload_n 1, 1) := by decide +kernel
theorem D158_127 : decode (byt 158) 127 = .ok (.iconst 3, 1) := by decide +kernel
theorem D158_128 : decode (byt 158) 128 = .ok (.iconst 0, 1) := by decide +kernel
theorem D158_129 : decode (byt 158) 129 = .ok (.invokevirtual 228, 3) := by decide +kernel
theorem D158_132 : decode (byt 158) 132 = .ok (.putfield 212, 3) := by decide +kernel
theorem D158_135 : decode (byt 158) 135 = .ok (.aload_n 0, 1) := by decide +kernel
theorem D158_136 : decode (byt 158) 136 = .ok (.getfield 191, 3) := by decide +kernel
theorem D158_139 : decode (byt 158) 139 = .ok (.ifCond .eq 4, 3) := by decide +kernel
theorem D158_142 : decode (byt 158) 142 = .ok (.return_, 1) := by decide +kernel
theorem D158_143 : decode (byt 158) 143 = .ok (.iconst 0, 1) := by decide +kernel
theorem D158_144 : decode (byt 158) 144 = .ok (.istore 4, 2) := by decide +kernel
theorem D158_146 : decode (byt 158) 146 = .ok (.iload 4, 2) := by decide +kernel
theorem D158_148 : decode (byt 158) 148 = .ok (.aload_n 0, 1) := by decide +kernel
theorem D158_149 : decode (byt 158) 149 = .ok (.getfield 74, 3) := by decide +kernel
theorem D158_152 : decode (byt 158) 152 = .ok (.iload_n 2, 1) := by decide +kernel
theorem D158_153 : decode (byt 158) 153 = .ok (.iaload, 1) := by decide +kernel
theorem D158_154 : decode (byt 158) 154 = .ok (.if_icmp .ge 30, 3) := by decide +kernel
theorem D158_157 : decode (byt 158) 157 = .ok (.aload_n 0, 1) := by decide +kernel
theorem D158_158 : decode (byt 158) 158 = .ok (.iload_n 1, 1) := by decide +kernel
theorem D158_159 : decode (byt 158) 159 = .ok (.aload_n 0, 1) := by decide +kernel
theorem D158_160 : decode (byt 158) 160 = .ok (.getfield 212, 3) := by decide +kernel
theorem D158_163 : decode (byt 158) 163 = .ok (.aload_n 0, 1) := by decide +kernel
theorem D158_164 : decode (byt 158) 164 = .ok (.getfield 71, 3) := by decide +kernel
theorem D158_167 : decode (byt 158) 167 = .ok (.bipush 12, 2) := by decide +kernel
theorem D158_169 : decode (byt 158) 169 = .ok (.iload_n 2, 1) := by decide +kernel
theorem D158_170 : decode (byt 158) 170 = .ok (.imul, 1) := by decide +kernel
theorem D158_171 : decode (byt 158) 171 = .ok (.iload 4, 2) := by decide +kernel
theorem D158_173 : decode (byt 158) 173 = .ok (.iadd, 1) := by decide +kernel
theorem D158_174 : decode (byt 158) 174 = .ok (.iaload, 1) := by decide +kernel
theorem D158_175 : decode (byt 158) 175 = .ok (.invokevirtual 235, 3) := by decide +kernel
theorem D158_178 : decode (byt 158) 178 = .ok (.iinc 4 1, 3) := by decide +kernel
theorem D158_181 : decode (byt 158) 181 = .ok (.goto (-35), 3) := by decide +kernel
theorem D158_184 : decode (byt 158) 184 = .ok (.iconst 0, 1) := by decide +kernel
theorem D158_185 : decode (byt 158) 185 = .ok (.istore 4, 2) := by decide +kernel
theorem D158_187 : decode (byt 158) 187 = .ok (.iload 4, 2) := by decide +kernel
theorem D158_189 : decode (byt 158) 189 = .ok (.aload_n 0, 1) := by decide +kernel
theorem D158_190 : decode (byt 158) 190 = .ok (.getfield 80, 3) := by decide +kernel
theorem D158_193 : decode (byt 158) 193 = .ok (.iload_n 2, 1) := by decide +kernel
theorem D158_194 : decode (byt 158) 194 = .ok (.iaload, 1) := by decide +kernel
theorem D158_195 : decode (byt 158) 195 = .ok (.if_icmp .ge 30, 3) := by decide +kernel
theorem D158_198 : decode (byt 158) 198 = .ok (.aload_n 0, 1) := by decide +kernel
theorem D158_199 : decode (byt 158) 199 = .ok (.iload_n 1, 1) := by decide +kernel
theorem D158_200 : decode (byt 158) 200 = .ok (.aload_n 0, 1) := by decide +kernel
theorem D158_201 : decode (byt 158) 201 = .ok (.getfield 212, 3) := by decide +kernel
theorem D158_204 : decode (byt 158) 204 = .ok (.aload_n 0, 1) := by decide +kernel
theorem D158_205 : decode (byt 158) 205 = .ok (.getfield 86, 3) := by decide +kernel
theorem D158_208 : decode (byt 158) 208 = .ok (.bipush 12, 2) := by decide +kernel
theorem D158_210 : decode (byt 158) 210 = .ok (.iload_n 2, 1) := by decide +kernel
theorem D158_211 : decode (byt 158) 211 = .ok (.imul, 1) := by decide +kernel
theorem D158_212 : decode (byt 158) 212 = .ok (.iload 4, 2) := by decide +kernel
theorem D158_214 : decode (byt 158) 214 = .ok (.iadd, 1) := by decide +kernel
theorem D158_215 : decode (byt 158) 215 = .ok (.iaload, 1) := by decide +kernel
theorem D158_216 : decode (byt 158) 216 = .ok (.invokevirtual 235, 3) := by decide +kernel
theorem D158_219 : decode (byt 158) 219 = .ok (.iinc 4 1, 3) := by decide +kernel
theorem D158_222 : decode (byt 158) 222 = .ok (.goto (-35), 3) := by decide +kernel
theorem D158_225 : decode (byt 158) 225 = .ok (.return_, 1) := by decide +kernel
theorem D159_0 : decode (byt 159) 0 = .ok (.aload_n 0, 1) := by decide +kernel
theorem D159_1 : decode (byt 159) 1 = .ok (.getfield 86, 3) := by decide +kernel
theorem D159_4 : decode (byt 159) 4 = .ok (.bipush 12, 2) := by decide +kernel
theorem D159_6 : decode (byt 159) 6 = .ok (.iload_n 1, 1) := by decide +kernel
theorem D159_7 : decode (byt 159) 7 = .ok (.imul, 1) := by decide +kernel
theorem D159_8 : decode (byt 159) 8 = .ok (.aload_n 0, 1) := by decide +kernel
theorem D159_9 : decode (byt 159) 9 = .ok (.getfield 83, 3) := by decide +kernel
theorem D159_12 : decode (byt 159) 12 = .ok (.iload_n 1, 1) := by decide +kernel
theorem D159_13 : decode (byt 159) 13 = .ok (.iaload, 1) := by decide +kernel
theorem D159_14 : decode (byt 159) 14 = .ok (.iadd, 1) := by decide +kernel
theorem D159_15 : decode (byt 159) 15 = .ok (.iload_n 2, 1) := by decide +kernel
theorem D159_16 : decode (byt 159) 16 = .ok (.iastore, 1) := by decide +kernel
theorem D159_17 : decode (byt 159) 17 = .ok (.aload_n 0, 1) := by decide +kernel
theorem D159_18 : decode (byt 159) 18 = .ok (.getfield 83, 3) := by decide +kernel
theorem D159_21 : decode (byt 159) 21 = .ok (.iload_n 1, 1) := by decide +kernel
theorem D159_22 : decode (byt 159) 22 = .ok (.dup2, 1) := by decide +kernel
theorem D159_23 : decode (byt 159) 23 = .ok (.iaload, 1) := by decide +kernel
theorem D159_24 : decode (byt 159) 24 = .ok (.iconst 1, 1) := by decide +kernel
theorem D159_25 : decode (byt 159) 25 = .ok (.iadd, 1) := by decide +kernel
theorem D159_26 : decode (byt 159) 26 = .ok (.iastore, 1) := by decide +kernel
theorem D159_27 : decode (byt 159) 27 = .ok (.aload_n 0, 1) := by decide +kernel
theorem D159_28 : decode (byt 159) 28 = .ok (.getfield 98, 3) := by decide +kernel
theorem D159_31 : decode (byt 159) 31 = .ok (.iload_n 1, 1) := by decide +kernel
theorem D159_32 : decode (byt 159) 32 = .ok (.iconst 0, 1) := by decide +kernel
theorem D159_33 : decode (byt 159) 33 = .ok (.iastore, 1) := by decide +kernel
theorem D159_34 : decode (byt 159) 34 = .ok (.aload_n 0, 1) := by decide +kernel
theorem D159_35 : decode (byt 159) 35 = .ok (.iconst (-1), 1) := by decide +kernel
theorem D159_36 : decode (byt 159) 36 = .ok (.putfield 212, 3) := by decide +kernel
theorem D159_39 : decode (byt 159) 39 = .ok (.iload_n 2, 1) := by decide +kernel
theorem D159_40 : decode (byt 159) 40 = .ok (.iconst 1, 1) := by decide +kernel
theorem D159_41 : decode (byt 159) 41 = .ok (.if_icmp .eq 4, 3) := by decide +kernel
theorem D159_44 : decode (byt 159) 44 = .ok (.return_, 1) := by decide +kernel
theorem D159_45 : decode (byt 159) 45 = .ok (.aload_n 0, 1) := by decide +kernel
theorem D159_46 : decode (byt 159) 46 = .ok (.dup, 1) := by decide +kernel
theorem D159_47 : decode (byt 159) 47 = .ok (.getfield 206, 3) := by decide +kernel
theorem D159_50 : decode (byt 159) 50 = .ok (.iconst 1, 1) := by decide +kernel
theorem D159_51 : decode (byt 159) 51 = .ok (.isub, 1) := by decide +kernel
theorem D159_52 : decode (byt 159) 52 = .ok (.putfield 206, 3) := by decide +kernel
theorem D159_55 : decode (byt 159) 55 = .ok (.aload_n 0, 1) := by decide +kernel
theorem D159_56 : decode (byt 159) 56 = .ok (.iconst 1, 1) := by decide +kernel
theorem D159_57 : decode (byt 159) 57 = .ok (.putfield 212, 3) := by decide +kernel
theorem D159_60 : decode (byt 159) 60 = .ok (.return_, 1) := by decide +kernel
theorem D160_0 : decode (byt 160) 0 = .ok (.aload_n 0, 1) := by decide +kernel
theorem D160_1 : decode (byt 160) 1 = .ok (.getfield 92, 3) := by decide +kernel
theorem D160_4 : decode (byt 160) 4 = .ok (.iload_n 2, 1) := by decide +kernel
theorem D160_5 : decode (byt 160) 5 = .ok (.iconst 0, 1) := by decide +kernel
theorem D160_6 : decode (byt 160) 6 = .ok (.iastore, 1) := by decide +kernel
theorem D160_7 : decode (byt 160) 7 = .ok (.bipush 40, 2) := by decide +kernel
theorem D160_9 : decode (byt 160) 9 = .ok (.iload_n 2, 1) := by decide +kernel
theorem D160_10 : decode (byt 160) 10 = .ok (.imul, 1) := by decide +kernel
theorem D160_11 : decode (byt 160) 11 = .ok (.istore_n 3, 1) := by decide +kernel
theorem D160_12 : decode (byt 160) 12 = .ok (.iload_n 3, 1) := by decide +kernel
theorem D160_13 : decode (byt 160) 13 = .ok (.bipush 40, 2) := by decide +kernel
theorem D160_15 : decode (byt 160) 15 = .ok (.iload_n 2, 1) := by decide +kernel
theorem D160_16 : decode (byt 160) 16 = .ok (.imul, 1) := by decide +kernel
theorem D160_17 : decode (byt 160) 17 = .ok (.aload_n 0, 1) := by decide +kernel
theorem D160_18 : decode (byt 160) 18 = .ok (.getfield 68, 3) := by decide +kernel
theorem D160_21 : decode (byt 160) 21 = .ok (.iload_n 2, 1) := by decide +kernel
theorem D160_22 : decode (byt 160) 22 = .ok (.iaload, 1) := by decide +kernel
theorem D160_23 : decode (byt 160) 23 = .ok (.iadd, 1) := by decide +kernel
theorem D160_24 : decode (byt 160) 24 = .ok (.if_icmp .ge 59, 3) := by decide +kernel
theorem D160_27 : decode (byt 160) 27 = .ok (.aload_n 0, 1) := by decide +kernel
theorem D160_28 : decode (byt 160) 28 = .ok (.getfield 77, 3) := by decide +kernel
theorem D160_31 : decode (byt 160) 31 = .ok (.iload_n 3, 1) := by decide +kernel
theorem D160_32 : decode (byt 160) 32 = .ok (.iaload, 1) := by decide +kernel
theorem D160_33 : decode (byt 160) 33 = .ok (.aload_n 0, 1) := by decide +kernel
theorem D160_34 : decode (byt 160) 34 = .ok (.getfield 83, 3) := by decide +kernel
theorem D160_37 : decode (byt 160) 37 = .ok (.iload_n 2, 1) := by decide +kernel
theorem D160_38 : decode (byt 160) 38 = .ok (.iaload, 1) := by decide +kernel
theorem D160_39 : decode (byt 160) 39 = .ok (.if_icmp .eq 6, 3) := by decide +kernel
theorem D160_42 : decode (byt 160) 42 = .ok (.goto 35, 3) := by decide +kernel
theorem D160_45 : decode (byt 160) 45 = .ok (.aload_n 0, 1) := by decide +kernel
theorem D160_46 : decode (byt 160) 46 = .ok (.getfield 89, 3) := by decide +kernel
theorem D160_49 : decode (byt 160) 49 = .ok (.bipush 40, 2) := by decide +kernel
theorem D160_51 : decode (byt 160) 51 = .ok (.iload_n 2, 1) := by decide +kernel
theorem D160_52 : decode (byt 160) 52 = .ok (.imul, 1) := by decide +kernel
theorem D160_53 : decode (byt 160) 53 = .ok (.aload_n 0, 1) := by decide +kernel
theorem D160_54 : decode (byt 160) 54 = .ok (.getfield 92, 3) := by decide +kernel
theorem D160_57 : decode (byt 160) 57 = .ok (.iload_n 2, 1) := by decide +kernel
theorem D160_58 : decode (byt 160) 58 = .ok (.iaload, 1) := by decide +kernel
theorem D160_59 : decode (byt 160) 59 = .ok (.iadd, 1) := by decide +kernel
theorem D160_60 : decode (byt 160) 60 = .ok (.aload_n 0, 1) := by decide +kernel
theorem D160_61 : decode (byt 160) 61 = .ok (.getfield 65, 3) := by decide +kernel
theorem D160_64 : decode (byt 160) 64 = .ok (.iload_n 3, 1) := by decide +kernel
theorem D160_65 : decode (byt 160) 65 = .ok (.iaload, 1) := by decide +kernel
theorem D160_66 : decode (byt 160) 66 = .ok (.iastore, 1) := by decide +kernel
theorem D160_67 : decode (byt 160) 67 = .ok (.aload_n 0, 1) := by decide +kernel
theorem D160_68 : decode (byt 160) 68 = .ok (.getfield 92, 3) := by decide +kernel
theorem D160_71 : decode (byt 160) 71 = .ok (.iload_n 2, 1) := by decide +kernel
theorem D160_72 : decode (byt 160) 72 = .ok (.dup2, 1) := by decide +kernel
theorem D160_73 : decode (byt 160) 73 = .ok (.iaload, 1) := by decide +kernel
theorem D160_74 : decode (byt 160) 74 = .ok (.iconst 1, 1) := by decide +kernel
theorem D160_75 : decode (byt 160) 75 = .ok (.iadd, 1) := by decide +kernel
theorem D160_76 : decode (byt 160) 76 = .ok (.iastore, 1) := by decide +kernel
theorem D160_77 : decode (byt 160) 77 = .ok (.iinc 3 1, 3) := by decide +kernel
theorem D160_80 : decode (byt 160) 80 = .ok (.goto (-68), 3) := by decide +kernel
theorem D160_83 : decode (byt 160) 83 = .ok (.aload_n 0, 1) := by decide +kernel
theorem D160_84 : decode (byt 160) 84 = .ok (.iload_n 2, 1) := by decide +kernel
theorem D160_85 : decode (byt 160) 85 = .ok (.invokevirtual 239, 3) := by decide +kernel
theorem D160_88 : decode (byt 160) 88 = .ok (.istore_n 3, 1) := by decide +kernel
theorem D160_89 : decode (byt 160) 89 = .ok (.iload_n 3, 1) := by decide +kernel
theorem D160_90 : decode (byt 160) 90 = .ok (.ifCond .lt 20, 3) := by decide +kernel
theorem D160_93 : decode (byt 160) 93 = .ok (.aload_n 0, 1) := by decide +kernel
theorem D160_94 : decode (byt 160) 94 = .ok (.getfield 40, 3) := by decide +kernel
theorem D160_97 : decode (byt 160) 97 = .ok (.iload_n 1, 1) := by decide +kernel
theorem D160_98 : decode (byt 160) 98 = .ok (.dup2, 1) := by decide +kernel
theorem D160_99 : decode (byt 160) 99 = .ok (.iaload, 1) := by decide +kernel
theorem D160_100 : decode (byt 160) 100 = .ok (.iconst 1, 1) := by decide +kernel
theorem D160_101 : decode (byt 160) 101 = .ok (.iadd, 1) := by decide +kernel
theorem D160_102 : decode (byt 160) 102 = .ok (.iastore, 1) := by decide +kernel
theorem D160_103 : decode (byt 160) 103 = .ok (.aload_n 0, 1) := by decide +kernel
theorem D160_104 : decode (byt 160) 104 = .ok (.iload_n 2, 1) := by decide +kernel
theorem D160_105 : decode (byt 160) 105 = .ok (.iload_n 3, 1) := by decide +kernel
theorem D160_106 : decode (byt 160) 106 = .ok (.invokevirtual 242, 3) := by decide +kernel
theorem D160_109 : decode (byt 160) 109 = .ok (.return_, 1) := by decide +kernel
theorem D160_110 : decode (byt 160) 110 = .ok (.aload_n 0, 1) := by decide +kernel
theorem D160_111 : decode (byt 160) 111 = .ok (.getfield 95, 3) := by decide +kernel
theorem D160_114 : decode (byt 160) 114 = .ok (.iload_n 2, 1) := by decide +kernel
theorem D160_115 : decode (byt 160) 115 = .ok (.aload_n 0, 1) := by decide +kernel
theorem D160_116 : decode (byt 160) 116 = .ok (.iload_n 1, 1) := by decide +kernel
theorem D160_117 : decode (byt 160) 117 = .ok (.iload_n 2, 1) := by decide +kernel
theorem D160_118 : decode (byt 160) 118 = .ok (.invokevirtual 245, 3) := by decide +kernel
theorem D160_121 : decode (byt 160) 121 = .ok (.iastore, 1) := by decide +kernel
theorem D160_122 : decode (byt 160) 122 = .ok (.aload_n 0, 1) := by decide +kernel
theorem D160_123 : decode (byt 160) 123 = .ok (.getfield 98, 3) := by decide +kernel
theorem D160_126 : decode (byt 160) 126 = .ok (.iload_n 2, 1) := by decide +kernel
theorem D160_127 : decode (byt 160) 127 = .ok (.iconst 1, 1) := by decide +kernel
theorem D160_128 : decode (byt 160) 128 = .ok (.iastore, 1) := by decide +kernel
theorem D160_129 : decode (byt 160) 129 = .ok (.aload_n 0, 1) := by decide +kernel
theorem D160_130 : decode (byt 160) 130 = .ok (.iload_n 2, 1) := by decide +kernel
theorem D160_131 : decode (byt 160) 131 = .ok (.iconst 1, 1) := by decide +kernel
theorem D160_132 : decode (byt 160) 132 = .ok (.aload_n 0, 1) := by decide +kernel
theorem D160_133 : decode (byt 160) 133 = .ok (.getfield 95, 3) := by decide +kernel
theorem D160_136 : decode (byt 160) 136 = .ok (.iload_n 2, 1) := by decide +kernel
theorem D160_137 : decode (byt 160) 137 = .ok (.iaload, 1) := by decide +kernel
theorem D160_138 : decode (byt 160) 138 = .ok (.ishl, 1) := by decide +kernel
theorem D160_139 : decode (byt 160) 139 = .ok (.invokevirtual 248, 3) := by decide +kernel
theorem D160_142 : decode (byt 160) 142 = .ok (.return_, 1) := by decide +kernel
theorem D161_0 : decode (byt 161) 0 = .ok (.iconst 1, 1) := by decide +kernel
theorem D161_1 : decode (byt 161) 1 = .ok (.istore 4, 2) := by decide +kernel
theorem D161_3 : decode (byt 161) 3 = .ok (.aload_n 0, 1) := by decide +kernel
theorem D161_4 : decode (byt 161) 4 = .ok (.getfield 101, 3) := by decide +kernel
theorem D161_7 : decode (byt 161) 7 = .ok (.iload_n 2, 1) := by decide +kernel
theorem D161_8 : decode (byt 161) 8 = .ok (.iaload, 1) := by decide +kernel
theorem D161_9 : decode (byt 161) 9 = .ok (.iconst 1, 1) := by decide +kernel
theorem D161_10 : decode (byt 161) 10 = .ok (.if_icmp .ne 8, 3) := by decide +kernel
theorem D161_13 : decode (byt 161) 13 = .ok (.iload_n 3, 1) := by decide +kernel
theorem D161_14 : decode (byt 161) 14 = .ok (.iconst 1, 1) := by decide +kernel
theorem D161_15 : decode (byt 161) 15 = .ok (.if_icmp .eq 48, 3) := by decide +kernel
theorem D161_18 : decode (byt 161) 18 = .ok (.aload_n 0, 1) := by decide +kernel
theorem D161_19 : decode (byt 161) 19 = .ok (.iload_n 1, 1) := by decide +kernel
theorem D161_20 : decode (byt 161) 20 = .ok (.iconst 4, 1) := by decide +kernel
theorem D161_21 : decode (byt 161) 21 = .ok (.aload_n 0, 1) := by decide +kernel
theorem D161_22 : decode (byt 161) 22 = .ok (.getfield 95, 3) := by decide +kernel
theorem D161_25 : decode (byt 161) 25 = .ok (.iload_n 2, 1) := by decide +kernel
theorem D161_26 : decode (byt 161) 26 = .ok (.iaload, 1) := by decide +kernel
theorem D161_27 : decode (byt 161) 27 = .ok (.iconst 1, 1) := by decide +kernel
theorem D161_28 : decode (byt 161) 28 = .ok (.iadd, 1) := by decide +kernel
theorem D161_29 : decode (byt 161) 29 = .ok (.invokevirtual 228, 3) := by decide +kernel
theorem D161_32 : decode (byt 161) 32 = .ok (.istore 4, 2) := by decide +kernel
theorem D161_34 : decode (byt 161) 34 = .ok (.aload_n 0, 1) := by decide +kernel
theorem D161_35 : decode (byt 161) 35 = .ok (.getfield 191, 3) := by decide +kernel
theorem D161_38 : decode (byt 161) 38 = .ok (.ifCond .eq 4, 3) := by decide +kernel
theorem D161_41 : decode (byt 161) 41 = .ok (.return_, 1) := by decide +kernel
theorem D161_42 : decode (byt 161) 42 = .ok (.aload_n 0, 1) := by decide +kernel
theorem D161_43 : decode (byt 161) 43 = .ok (.iload_n 1, 1) := by decide +kernel
theorem D161_44 : decode (byt 161) 44 = .ok (.iload 4, 2) := by decide +kernel
theorem D161_46 : decode (byt 161) 46 = .ok (.aload_n 0, 1) := by decide +kernel
theorem D161_47 : decode (byt 161) 47 = .ok (.getfield 101, 3) := by decide +kernel
theorem D161_50 : decode (byt 161) 50 = .ok (.iload_n 2, 1) := by decide +kernel
theorem D161_51 : decode (byt 161) 51 = .ok (.iaload, 1) := by decide +kernel
theorem D161_52 : decode (byt 161) 52 = .ok (.invokevirtual 235, 3) := by decide +kernel
theorem D161_55 : decode (byt 161) 55 = .ok (.aload_n 0, 1) := by decide +kernel
theorem D161_56 : decode (byt 161) 56 = .ok (.iload_n 1, 1) := by decide +kernel
theorem D161_57 : decode (byt 161) 57 = .ok (.iload 4, 2) := by decide +kernel
theorem D161_59 : decode (byt 161) 59 = .ok (.iload_n 3, 1) := by decide +kernel
theorem D161_60 : decode (byt 161) 60 = .ok (.invokevirtual 235, 3) := by decide +kernel
theorem D161_63 : decode (byt 161) 63 = .ok (.aload_n 0, 1) := by decide +kernel
theorem D161_64 : decode (byt 161) 64 = .ok (.iload_n 2, 1) := by decide +kernel
theorem D161_65 : decode (byt 161) 65 = .ok (.iload 4, 2) := by decide +kernel
theorem D161_67 : decode (byt 161) 67 = .ok (.invokevirtual 251, 3) := by decide +kernel
theorem D161_70 : decode (byt 161) 70 = .ok (.aload_n 0, 1) := by decide +kernel
theorem D161_71 : decode (byt 161) 71 = .ok (.iload_n 2, 1) := by decide +kernel
theorem D161_72 : decode (byt 161) 72 = .ok (.iload 4, 2) := by decide +kernel
theorem D161_74 : decode (byt 161) 74 = .ok (.invokevirtual 242, 3) := by decide +kernel
theorem D161_77 : decode (byt 161) 77 = .ok (.return_, 1) := by decide +kernel
theorem D162_0 : decode (byt 162) 0 = .ok (.aload_n 0, 1) := by decide +kernel
theorem D162_1 : decode (byt 162) 1 = .ok (.getfield 206, 3) := by decide +kernel
theorem D162_4 : decode (byt 162) 4 = .ok (.iconst 1, 1) := by decide +kernel
theorem D162_5 : decode (byt 162) 5 = .ok (.isub, 1) := by decide +kernel
theorem D162_6 : decode (byt 162) 6 = .ok (.istore_n 2, 1) := by decide +kernel
theorem D162_7 : decode (byt 162) 7 = .ok (.aload_n 0, 1) := by decide +kernel
theorem D162_8 : decode (byt 162) 8 = .ok (.getfield 98, 3) := by decide +kernel
theorem D162_11 : decode (byt 162) 11 = .ok (.iload_n 2, 1) := by decide +kernel
theorem D162_12 : decode (byt 162) 12 = .ok (.iaload, 1) := by decide +kernel
theorem D162_13 : decode (byt 162) 13 = .ok (.ifCond .ne 36, 3) := by decide +kernel
theorem D162_16 : decode (byt 162) 16 = .ok (.aload_n 0, 1) := by decide +kernel
theorem D162_17 : decode (byt 162) 17 = .ok (.getfield 83, 3) := by decide +kernel
theorem D162_20 : decode (byt 162) 20 = .ok (.iload_n 2, 1) := by decide +kernel
theorem D162_21 : decode (byt 162) 21 = .ok (.iaload, 1) := by decide +kernel
theorem D162_22 : decode (byt 162) 22 = .ok (.aload_n 0, 1) := by decide +kernel
theorem D162_23 : decode (byt 162) 23 = .ok (.getfield 80, 3) := by decide +kernel
theorem D162_26 : decode (byt 162) 26 = .ok (.iload_n 2, 1) := by decide +kernel
theorem D162_27 : decode (byt 162) 27 = .ok (.iaload, 1) := by decide +kernel
theorem D162_28 : decode (byt 162) 28 = .ok (.if_icmp .ne 12, 3) := by decide +kernel
theorem D162_31 : decode (byt 162) 31 = .ok (.aload_n 0, 1) := by decide +kernel
theorem D162_32 : decode (byt 162) 32 = .ok (.iload_n 1, 1) := by decide +kernel
theorem D162_33 : decode (byt 162) 33 = .ok (.iload_n 2, 1) := by decide +kernel
theorem D162_34 : decode (byt 162) 34 = .ok (.invokevirtual 254, 3) := by decide +kernel
theorem D162_37 : decode (byt 162) 37 = .ok (.goto 68, 3) := by decide +kernel
theorem D162_40 : decode (byt 162) 40 = .ok (.aload_n 0, 1) := by decide +kernel
theorem D162_41 : decode (byt 162) 41 = .ok (.iload_n 1, 1) := by decide +kernel
theorem D162_42 : decode (byt 162) 42 = .ok (.iload_n 2, 1) := by decide +kernel
theorem D162_43 : decode (byt 162) 43 = .ok (.invokevirtual 257, 3) := by decide +kernel
theorem D162_46 : decode (byt 162) 46 = .ok (.goto 59, 3) := by decide +kernel
theorem D162_49 : decode (byt 162) 49 = .ok (.aload_n 0, 1) := by decide +kernel
theorem D162_50 : decode (byt 162) 50 = .ok (.getfield 98, 3) := by decide +kernel
theorem D162_53 : decode (byt 162) 53 = .ok (.iload_n 2, 1) := by decide +kernel
theorem D162_54 : decode (byt 162) 54 = .ok (.iaload, 1) := by decide +kernel
theorem D162_55 : decode (byt 162) 55 = .ok (.iconst 1, 1) := by decide +kernel
theorem D162_56 : decode (byt 162) 56 = .ok (.if_icmp .ne 39, 3) := by decide +kernel
theorem D162_59 : decode (byt 162) 59 = .ok (.aload_n 0, 1) := by decide +kernel
theorem D162_60 : decode (byt 162) 60 = .ok (.getfield 101, 3) := by decide +kernel
theorem D162_63 : decode (byt 162) 63 = .ok (.iload_n 2, 1) := by decide +kernel
theorem D162_64 : decode (byt 162) 64 = .ok (.aload_n 0, 1) := by decide +kernel
theorem D162_65 : decode (byt 162) 65 = .ok (.getfield 212, 3) := by decide +kernel
theorem D162_68 : decode (byt 162) 68 = .ok (.iastore, 1) := by decide +kernel
theorem D162_69 : decode (byt 162) 69 = .ok (.aload_n 0, 1) := by decide +kernel
theorem D162_70 : decode (byt 162) 70 = .ok (.getfield 98, 3) := by decide +kernel
theorem D162_73 : decode (byt 162) 73 = .ok (.iload_n 2, 1) := by decide +kernel
theorem D162_74 : decode (byt 162) 74 = .ok (.iconst 2, 1) := by decide +kernel
theorem D162_75 : decode (byt 162) 75 = .ok (.iastore, 1) := by decide +kernel
theorem D162_76 : decode (byt 162) 76 = .ok (.aload_n 0, 1) := by decide +kernel
theorem D162_77 : decode (byt 162) 77 = .ok (.iload_n 2, 1) := by decide +kernel
theorem D162_78 : decode (byt 162) 78 = .ok (.iconst 1, 1) := by decide +kernel
theorem D162_79 : decode (byt 162) 79 = .ok (.bipush 12, 2) := by decide +kernel
theorem D162_81 : decode (byt 162) 81 = .ok (.aload_n 0, 1) := by decide +kernel
theorem D162_82 : decode (byt 162) 82 = .ok (.getfield 95, 3) := by decide +kernel
theorem D162_85 : decode (byt 162) 85 = .ok (.iload_n 2, 1) := by decide +kernel
theorem D162_86 : decode (byt 162) 86 = .ok (.iaload, 1) := by decide +kernel
theorem D162_87 : decode (byt 162) 87 = .ok (.iadd, 1) := by decide +kernel
theorem D162_88 : decode (byt 162) 88 = .ok (.ishl, 1) := by decide +kernel
theorem D162_89 : decode (byt 162) 89 = .ok (.invokevirtual 248, 3) := by decide +kernel
theorem D162_92 : decode (byt 162) 92 = .ok (.goto 13, 3) := by decide +kernel
theorem D162_95 : decode (byt 162) 95 = .ok (.aload_n 0, 1) := by decide +kernel
theorem D162_96 : decode (byt 162) 96 = .ok (.iload_n 1, 1) := by decide +kernel
theorem D162_97 : decode (byt 162) 97 = .ok (.iload_n 2, 1) := by decide +kernel
theorem D162_98 : decode (byt 162) 98 = .ok (.aload_n 0, 1) := by decide +kernel
theorem D162_99 : decode (byt 162) 99 = .ok (.getfield 212, 3) := by decide +kernel
theorem D162_102 : decode (byt 162) 102 = .ok (.invokevirtual 260, 3) := by decide +kernel
theorem D162_105 : decode (byt 162) 105 = .ok (.return_, 1) := by decide +kernel
theorem D163_0 : decode (byt 163) 0 = .ok (.iload_n 1, 1) := by decide +kernel
theorem D163_1 : decode (byt 163) 1 = .ok (.invokestatic 150, 3) := by decide +kernel
theorem D163_4 : decode (byt 163) 4 = .ok (.ifCond .ne 10, 3) := by decide +kernel
theorem D163_7 : decode (byt 163) 7 = .ok (.aload_n 0, 1) := by decide +kernel
theorem D163_8 : decode (byt 163) 8 = .ok (.bipush (-3), 2) := by decide +kernel
theorem D163_10 : decode (byt 163) 10 = .ok (.invokevirtual 154, 3) := by decide +kernel
theorem D163_13 : decode (byt 163) 13 = .ok (.ireturn, 1) := by decide +kernel
theorem D163_14 : decode (byt 163) 14 = .ok (.aload_n 0, 1) := by decide +kernel
theorem D163_15 : decode (byt 163) 15 = .ok (.getfield 34, 3) := by decide +kernel
theorem D163_18 : decode (byt 163) 18 = .ok (.iload_n 1, 1) := by decide +kernel
theorem D163_19 : decode (byt 163) 19 = .ok (.iconst 0, 1) := by decide +kernel
theorem D163_20 : decode (byt 163) 20 = .ok (.iastore, 1) := by decide +kernel
theorem D163_21 : decode (byt 163) 21 = .ok (.aload_n 0, 1) := by decide +kernel
theorem D163_22 : decode (byt 163) 22 = .ok (.getfield 59, 3) := by decide +kernel
theorem D163_25 : decode (byt 163) 25 = .ok (.iload_n 1, 1) := by decide +kernel
theorem D163_26 : decode (byt 163) 26 = .ok (.iconst 0, 1) := by decide +kernel
theorem D163_27 : decode (byt 163) 27 = .ok (.iastore, 1) := by decide +kernel
theorem D163_28 : decode (byt 163) 28 = .ok (.aload_n 0, 1) := by decide +kernel
theorem D163_29 : decode (byt 163) 29 = .ok (.getfield 40, 3) := by decide +kernel
theorem D163_32 : decode (byt 163) 32 = .ok (.iload_n 1, 1) := by decide +kernel
theorem D163_33 : decode (byt 163) 33 = .ok (.iconst 0, 1) := by decide +kernel
theorem D163_34 : decode (byt 163) 34 = .ok (.iastore, 1) := by decide +kernel
theorem D163_35 : decode (byt 163) 35 = .ok (.aload_n 0, 1) := by decide +kernel
theorem D163_36 : decode (byt 163) 36 = .ok (.iconst 0, 1) := by decide +kernel
theorem D163_37 : decode (byt 163) 37 = .ok (.putfield 219, 3) := by decide +kernel
theorem D163_40 : decode (byt 163) 40 = .ok (.aload_n 0, 1) := by decide +kernel
theorem D163_41 : decode (byt 163) 41 = .ok (.iconst 0, 1) := by decide +kernel
theorem D163_42 : decode (byt 163) 42 = .ok (.putfield 222, 3) := by decide +kernel
theorem D163_45 : decode (byt 163) 45 = .ok (.aload_n 0, 1) := by decide +kernel
theorem D163_46 : decode (byt 163) 46 = .ok (.iconst 0, 1) := by decide +kernel
theorem D163_47 : decode (byt 163) 47 = .ok (.putfield 191, 3) := by decide +kernel
theorem D163_50 : decode (byt 163) 50 = .ok (.iconst 0, 1) := by decide +kernel
theorem D163_51 : decode (byt 163) 51 = .ok (.istore_n 2, 1) := by decide +kernel
theorem D163_52 : decode (byt 163) 52 = .ok (.iload_n 2, 1) := by decide +kernel
theorem D163_53 : decode (byt 163) 53 = .ok (.bipush 24, 2) := by decide +kernel
theorem D163_55 : decode (byt 163) 55 = .ok (.if_icmp .ge 16, 3) := by decide +kernel
theorem D163_58 : decode (byt 163) 58 = .ok (.aload_n 0, 1) := by decide +kernel
theorem D163_59 : decode (byt 163) 59 = .ok (.getfield 62, 3) := by decide +kernel
theorem D163_62 : decode (byt 163) 62 = .ok (.iload_n 2, 1) := by decide +kernel
theorem D163_63 : decode (byt 163) 63 = .ok (.iconst (-1), 1) := by decide +kernel
theorem D163_64 : decode (byt 163) 64 = .ok (.iastore, 1) := by decide +kernel
theorem D163_65 : decode (byt 163) 65 = .ok (.iinc 2 1, 3) := by decide +kernel
theorem D163_68 : decode (byt 163) 68 = .ok (.goto (-16), 3) := by decide +kernel
theorem D163_71 : decode (byt 163) 71 = .ok (.aload_n 0, 1) := by decide +kernel
theorem D163_72 : decode (byt 163) 72 = .ok (.iload_n 1, 1) := by decide +kernel
theorem D163_73 : decode (byt 163) 73 = .ok (.iconst 0, 1) := by decide +kernel
theorem D163_74 : decode (byt 163) 74 = .ok (.iconst 0, 1) := by decide +kernel
theorem D163_75 : decode (byt 163) 75 = .ok (.invokevirtual 228, 3) := by decide +kernel
theorem D163_78 : decode (byt 163) 78 = .ok (.aload_n 0, 1) := by decide +kernel
theorem D163_79 : decode (byt 163) 79 = .ok (.iload_n 1, 1) := by decide +kernel
theorem D163_80 : decode (byt 163) 80 = .ok (.iconst 1, 1) := by decide +kernel
theorem D163_81 : decode (byt 163) 81 = .ok (.iconst 0, 1) := by decide +kernel
theorem D163_82 : decode (byt 163) 82 = .ok (.invokevirtual 228, 3) := by decide +kernel
theorem D163_85 : decode (byt 163) 85 = .ok (.iadd, 1) := by decide +kernel
theorem D163_86 : decode (byt 163) 86 = .ok (.istore_n 2, 1) := by decide +kernel
theorem D163_87 : decode (byt 163) 87 = .ok (.aload_n 0, 1) := by decide +kernel
theorem D163_88 : decode (byt 163) 88 = .ok (.getfield 68, 3) := by decide +kernel
theorem D163_91 : decode (byt 163) 91 = .ok (.iconst 0, 1) := by decide +kernel
theorem D163_92 : decode (byt 163) 92 = .ok (.iconst 0, 1) := by decide +kernel
theorem D163_93 : decode (byt 163) 93 = .ok (.iastore, 1) := by decide +kernel
theorem D163_94 : decode (byt 163) 94 = .ok (.iconst 0, 1) := by decide +kernel
theorem D163_95 : decode (byt 163) 95 = .ok (.istore_n 3, 1) := by decide +kernel
theorem D163_96 : decode (byt 163) 96 = .ok (.iload_n 3, 1) := by decide +kernel
theorem D163_97 : decode (byt 163) 97 = .ok (.aload_n 0, 1) := by decide +kernel
theorem D163_98 : decode (byt 163) 98 = .ok (.getfield 16, 3) := by decide +kernel
theorem D163_101 : decode (byt 163) 101 = .ok (.iload_n 1, 1) := by decide +kernel
theorem D163_102 : decode (byt 163) 102 = .ok (.iaload, 1) := by decide +kernel
theorem D163_103 : decode (byt 163) 103 = .ok (.if_icmp .ge 25, 3) := by decide +kernel
theorem D163_106 : decode (byt 163) 106 = .ok (.aload_n 0, 1) := by decide +kernel
theorem D163_107 : decode (byt 163) 107 = .ok (.iconst 0, 1) := by decide +kernel
theorem D163_108 : decode (byt 163) 108 = .ok (.aload_n 0, 1) := by decide +kernel
theorem D163_109 : decode (byt 163) 109 = .ok (.getfield 13, 3) := by decide +kernel
theorem D163_112 : decode (byt 163) 112 = .ok (.bipush 40, 2) := by decide +kernel
theorem D163_114 : decode (byt 163) 114 = .ok (.iload_n 1, 1) := by decide +kernel
theorem D163_115 : decode (byt 163) 115 = .ok (.imul, 1) := by decide +kernel
theorem D163_116 : decode (byt 163) 116 = .ok (.iload_n 3, 1) := by decide +kernel
theorem D163_117 : decode (byt 163) 117 = .ok (.iadd, 1) := by decide +kernel
theorem D163_118 : decode (byt 163) 118 = .ok (.iaload, 1) := by decide +kernel
theorem D163_119 : decode (byt 163) 119 = .ok (.invokevirtual 196, 3) := by decide +kernel
theorem D163_122 : decode (byt 163) 122 = .ok (.iinc 3 1, 3) := by decide +kernel
theorem D163_125 : decode (byt 163) 125 = .ok (.goto (-29), 3) := by decide +kernel
theorem D163_128 : decode (byt 163) 128 = .ok (.aload_n 0, 1) := by decide +kernel
theorem D163_129 : decode (byt 163) 129 = .ok (.iconst 1, 1) := by decide +kernel
theorem D163_130 : decode (byt 163) 130 = .ok (.putfield 206, 3) := by decide +kernel
theorem D163_133 : decode (byt 163) 133 = .ok (.aload_n 0, 1) := by decide +kernel
theorem D163_134 : decode (byt 163) 134 = .ok (.invokevirtual 225, 3) := by decide +kernel
theorem D163_137 : decode (byt 163) 137 = .ok (.aload_n 0, 1) := by decide +kernel
theorem D163_138 : decode (byt 163) 138 = .ok (.getfield 206, 3) := by decide +kernel
theorem D163_141 : decode (byt 163) 141 = .ok (.ifCond .le 18, 3) := by decide +kernel
theorem D163_144 : decode (byt 163) 144 = .ok (.aload_n 0, 1) := by decide +kernel
theorem D163_145 : decode (byt 163) 145 = .ok (.getfield 191, 3) := by decide +kernel
theorem D163_148 : decode (byt 163) 148 = .ok (.ifCond .ne 11, 3) := by decide +kernel
theorem D163_151 : decode (byt 163) 151 = .ok (.aload_n 0, 1) := by decide +kernel
theorem D163_152 : decode (byt 163) 152 = .ok (.iload_n 1, 1) := by decide +kernel
theorem D163_153 : decode (byt 163) 153 = .ok (.invokevirtual 263, 3) := by decide +kernel
theorem D163_156 : decode (byt 163) 156 = .ok (.goto (-19), 3) := by decide +kernel
theorem D163_159 : decode (byt 163) 159 = .ok (.aload_n 0, 1) := by decide +kernel
theorem D163_160 : decode (byt 163) 160 = .ok (.getfield 191, 3) := by decide +kernel
theorem D163_163 : decode (byt 163) 163 = .ok (.ifCond .eq 17, 3) := by decide +kernel
theorem D163_166 : decode (byt 163) 166 = .ok (.aload_n 0, 1) := by decide +kernel
theorem D163_167 : decode (byt 163) 167 = .ok (.getfield 34, 3) := by decide +kernel
theorem D163_170 : decode (byt 163) 170 = .ok (.iload_n 1, 1) := by decide +kernel
theorem D163_171 : decode (byt 163) 171 = .ok (.iconst 0, 1) := by decide +kernel
theorem D163_172 : decode (byt 163) 172 = .ok (.iastore, 1) := by decide +kernel
theorem D163_173 : decode (byt 163) 173 = .ok (.aload_n 0, 1) := by decide +kernel
theorem D163_174 : decode (byt 163) 174 = .ok (.bipush (-9), 2) := by decide +kernel
theorem D163_176 : decode (byt 163) 176 = .ok (.invokevirtual 154, 3) := by decide +kernel
theorem D163_179 : decode (byt 163) 179 = .ok (.ireturn, 1) := by decide +kernel
theorem D163_180 : decode (byt 163) 180 = .ok (.aload_n 0, 1) := by decide +kernel
theorem D163_181 : decode (byt 163) 181 = .ok (.getfield 37, 3) := by decide +kernel
theorem D163_184 : decode (byt 163) 184 = .ok (.iload_n 1, 1) := by decide +kernel
theorem D163_185 : decode (byt 163) 185 = .ok (.aload_n 0, 1) := by decide +kernel
theorem D163_186 : decode (byt 163) 186 = .ok (.getfield 212, 3) := by decide +kernel
theorem D163_189 : decode (byt 163) 189 = .ok (.iastore, 1) := by decide +kernel
theorem D163_190 : decode (byt 163) 190 = .ok (.aload_n 0, 1) := by decide +kernel
theorem D163_191 : decode (byt 163) 191 = .ok (.getfield 127, 3) := by decide +kernel
theorem D163_194 : decode (byt 163) 194 = .ok (.iload_n 1, 1) := by decide +kernel
theorem D163_195 : decode (byt 163) 195 = .ok (.iconst 0, 1) := by decide +kernel
theorem D163_196 : decode (byt 163) 196 = .ok (.bastore, 1) := by decide +kernel
theorem D163_197 : decode (byt 163) 197 = .ok (.aload_n 0, 1) := by decide +kernel
theorem D163_198 : decode (byt 163) 198 = .ok (.getfield 34, 3) := by decide +kernel
theorem D163_201 : decode (byt 163) 201 = .ok (.iload_n 1, 1) := by decide +kernel
theorem D163_202 : decode (byt 163) 202 = .ok (.iaload, 1) := by decide +kernel
theorem D163_203 : decode (byt 163) 203 = .ok (.ireturn, 1) := by decide +kernel
theorem D164_0 : decode (byt 164) 0 = .ok (.iload_n 1, 1) := by decide +kernel
theorem D164_1 : decode (byt 164) 1 = .ok (.invokestatic 150, 3) := by decide +kernel
theorem D164_4 : decode (byt 164) 4 = .ok (.ifCond .ne 10, 3) := by decide +kernel
theorem D164_7 : decode (byt 164) 7 = .ok (.aload_n 0, 1) := by decide +kernel
theorem D164_8 : decode (byt 164) 8 = .ok (.bipush (-3), 2) := by decide +kernel
theorem D164_10 : decode (byt 164) 10 = .ok (.invokevirtual 154, 3) := by decide +kernel
theorem D164_13 : decode (byt 164) 13 = .ok (.ireturn, 1) := by decide +kernel
theorem D164_14 : decode (byt 164) 14 = .ok (.aload_n 0, 1) := by decide +kernel
theorem D164_15 : decode (byt 164) 15 = .ok (.getfield 34, 3) := by decide +kernel
theorem D164_18 : decode (byt 164) 18 = .ok (.iload_n 1, 1) := by decide +kernel
theorem D164_19 : decode (byt 164) 19 = .ok (.iaload, 1) := by decide +kernel
theorem D164_20 : decode (byt 164) 20 = .ok (.ifCond .le 12, 3) := by decide +kernel
theorem D164_23 : decode (byt 164) 23 = .ok (.aload_n 0, 1) := by decide +kernel
theorem D164_24 : decode (byt 164) 24 = .ok (.getfield 37, 3) := by decide +kernel
theorem D164_27 : decode (byt 164) 27 = .ok (.iload_n 1, 1) := by decide +kernel
theorem D164_28 : decode (byt 164) 28 = .ok (.iaload, 1) := by decide +kernel
theorem D164_29 : decode (byt 164) 29 = .ok (.goto 9, 3) := by decide +kernel
theorem D164_32 : decode (byt 164) 32 = .ok (.aload_n 0, 1) := by decide +kernel
theorem D164_33 : decode (byt 164) 33 = .ok (.bipush (-2), 2) := by decide +kernel
theorem D164_35 : decode (byt 164) 35 = .ok (.invokevirtual 154, 3) := by decide +kernel
theorem D164_38 : decode (byt 164) 38 = .ok (.ireturn, 1) := by decide +kernel
theorem D165_0 : decode (byt 165) 0 = .ok (.iload_n 1, 1) := by decide +kernel
theorem D165_1 : decode (byt 165) 1 = .ok (.invokestatic 150, 3) := by decide +kernel
theorem D165_4 : decode (byt 165) 4 = .ok (.ifCond .ne 6, 3) := by decide +kernel
theorem D165_7 : decode (byt 165) 7 = .ok (.bipush (-3), 2) := by decide +kernel
theorem D165_9 : decode (byt 165) 9 = .ok (.ireturn, 1) := by decide +kernel
theorem D165_10 : decode (byt 165) 10 = .ok (.aload_n 0, 1) := by decide +kernel
theorem D165_11 : decode (byt 165) 11 = .ok (.getfield 34, 3) := by decide +kernel
theorem D165_14 : decode (byt 165) 14 = .ok (.iload_n 1, 1) := by decide +kernel
theorem D165_15 : decode (byt 165) 15 = .ok (.iaload, 1) := by decide +kernel
theorem D165_16 : decode (byt 165) 16 = .ok (.ifCond .ne 6, 3) := by decide +kernel
theorem D165_19 : decode (byt 165) 19 = .ok (.bipush (-2), 2) := by decide +kernel
theorem D165_21 : decode (byt 165) 21 = .ok (.ireturn, 1) := by decide +kernel
theorem D165_22 : decode (byt 165) 22 = .ok (.iload_n 2, 1) := by decide +kernel
theorem D165_23 : decode (byt 165) 23 = .ok (.i2l, 1) := by decide +kernel
theorem D165_24 : decode (byt 165) 24 = .ok (.lconst 0, 1) := by decide +kernel
theorem D165_25 : decode (byt 165) 25 = .ok (.aload_n 0, 1) := by decide +kernel
theorem D165_26 : decode (byt 165) 26 = .ok (.getfield 34, 3) := by decide +kernel
theorem D165_29 : decode (byt 165) 29 = .ok (.iload_n 1, 1) := by decide +kernel
theorem D165_30 : decode (byt 165) 30 = .ok (.iaload, 1) := by decide +kernel
theorem D165_31 : decode (byt 165) 31 = .ok (.iconst 1, 1) := by decide +kernel
theorem D165_32 : decode (byt 165) 32 = .ok (.isub, 1) := by decide +kernel
theorem D165_33 : decode (byt 165) 33 = .ok (.i2l, 1) := by decide +kernel
theorem D165_34 : decode (byt 165) 34 = .ok (.invokestatic 146, 3) := by decide +kernel
theorem D165_37 : decode (byt 165) 37 = .ok (.ifCond .eq 7, 3) := by decide +kernel
theorem D165_40 : decode (byt 165) 40 = .ok (.iconst 0, 1) := by decide +kernel
theorem D165_41 : decode (byt 165) 41 = .ok (.goto 5, 3) := by decide +kernel
theorem D165_44 : decode (byt 165) 44 = .ok (.bipush (-3), 2) := by decide +kernel
theorem D165_46 : decode (byt 165) 46 = .ok (.ireturn, 1) := by decide +kernel
theorem D166_0 : decode (byt 166) 0 = .ok (.iconst 0, 1) := by decide +kernel
theorem D166_1 : decode (byt 166) 1 = .ok (.istore_n 2, 1) := by decide +kernel
theorem D166_2 : decode (byt 166) 2 = .ok (.iload_n 2, 1) := by decide +kernel
theorem D166_3 : decode (byt 166) 3 = .ok (.aload_n 0, 1) := by decide +kernel
theorem D166_4 : decode (byt 166) 4 = .ok (.getfield 34, 3) := by decide +kernel
theorem D166_7 : decode (byt 166) 7 = .ok (.iload_n 1, 1) := by decide +kernel
theorem D166_8 : decode (byt 166) 8 = .ok (.iaload, 1) := by decide +kernel
theorem D166_9 : decode (byt 166) 9 = .ok (.if_icmp .ge 96, 3) := by decide +kernel
theorem D166_12 : decode (byt 166) 12 = .ok (.sipush 1500, 3) := by decide +kernel
theorem D166_15 : decode (byt 166) 15 = .ok (.iload_n 1, 1) := by decide +kernel
theorem D166_16 : decode (byt 166) 16 = .ok (.imul, 1) := by decide +kernel
theorem D166_17 : decode (byt 166) 17 = .ok (.iload_n 2, 1) := by decide +kernel
theorem D166_18 : decode (byt 166) 18 = .ok (.iadd, 1) := by decide +kernel
theorem D166_19 : decode (byt 166) 19 = .ok (.istore_n 3, 1) := by decide +kernel
theorem D166_20 : decode (byt 166) 20 = .ok (.aload_n 0, 1) := by decide +kernel
theorem D166_21 : decode (byt 166) 21 = .ok (.getfield 46, 3) := by decide +kernel
theorem D166_24 : decode (byt 166) 24 = .ok (.iload_n 3, 1) := by decide +kernel
theorem D166_25 : decode (byt 166) 25 = .ok (.iaload, 1) := by decide +kernel
theorem D166_26 : decode (byt 166) 26 = .ok (.ifCond .ne 7, 3) := by decide +kernel
theorem D166_29 : decode (byt 166) 29 = .ok (.iconst 0, 1) := by decide +kernel
theorem D166_30 : decode (byt 166) 30 = .ok (.goto 15, 3) := by decide +kernel
theorem D166_33 : decode (byt 166) 33 = .ok (.aload_n 0, 1) := by decide +kernel
theorem D166_34 : decode (byt 166) 34 = .ok (.getfield 46, 3) := by decide +kernel
theorem D166_37 : decode (byt 166) 37 = .ok (.iload_n 3, 1) := by decide +kernel
theorem D166_38 : decode (byt 166) 38 = .ok (.iaload, 1) := by decide +kernel
theorem D166_39 : decode (byt 166) 39 = .ok (.invokestatic 170, 3) := by decide +kernel
theorem D166_42 : decode (byt 166) 42 = .ok (.invokestatic 183, 3) := by decide +kernel
theorem D166_45 : decode (byt 166) 45 = .ok (.istore 4, 2) := by decide +kernel
theorem D166_47 : decode (byt 166) 47 = .ok (.iconst 0, 1) := by decide +kernel
theorem D166_48 : decode (byt 166) 48 = .ok (.istore 5, 2) := by decide +kernel
theorem D166_50 : decode (byt 166) 50 = .ok (.iload 5, 2) := by decide +kernel
theorem D166_52 : decode (byt 166) 52 = .ok (.aload_n 0, 1) := by decide +kernel
theorem D166_53 : decode (byt 166) 53 = .ok (.getfield 52, 3) := by decide +kernel
theorem D166_56 : decode (byt 166) 56 = .ok (.iload_n 3, 1) := by decide +kernel
theorem D166_57 : decode (byt 166) 57 = .ok (.iaload, 1) := by decide +kernel
theorem D166_58 : decode (byt 166) 58 = .ok (.if_icmp .ge 33, 3) := by decide +kernel
theorem D166_61 : decode (byt 166) 61 = .ok (.iload 4, 2) := by decide +kernel
theorem D166_63 : decode (byt 166) 63 = .ok (.aload_n 0, 1) := by decide +kernel
theorem D166_64 : decode (byt 166) 64 = .ok (.getfield 117, 3) := by decide +kernel
theorem D166_67 : decode (byt 166) 67 = .ok (.aload_n 0, 1) := by decide +kernel
theorem D166_68 : decode (byt 166) 68 = .ok (.getfield 56, 3) := by decide +kernel
theorem D166_71 : decode (byt 166) 71 = .ok (.aload_n 0, 1) := by decide +kernel
theorem D166_72 : decode (byt 166) 72 = .ok (.getfield 49, 3) := by decide +kernel
theorem D166_75 : decode (byt 166) 75 = .ok (.iload_n 3, 1) := by decide +kernel
theorem D166_76 : decode (byt 166) 76 = .ok (.iaload, 1) := by decide +kernel
theorem D166_77 : decode (byt 166) 77 = .ok (.iload 5, 2) := by decide +kernel
theorem D166_79 : decode (byt 166) 79 = .ok (.iadd, 1) := by decide +kernel
theorem D166_80 : decode (byt 166) 80 = .ok (.iaload, 1) := by decide +kernel
theorem D166_81 : decode (byt 166) 81 = .ok (.iaload, 1) := by decide +kernel
theorem D166_82 : decode (byt 166) 82 = .ok (.ior, 1) := by decide +kernel
theorem D166_83 : decode (byt 166) 83 = .ok (.istore 4, 2) := by decide +kernel
theorem D166_85 : decode (byt 166) 85 = .ok (.iinc 5 1, 3) := by decide +kernel
theorem D166_88 : decode (byt 166) 88 = .ok (.goto (-38), 3) := by decide +kernel
theorem D166_91 : decode (byt 166) 91 = .ok (.aload_n 0, 1) := by decide +kernel
theorem D166_92 : decode (byt 166) 92 = .ok (.getfield 117, 3) := by decide +kernel
theorem D166_95 : decode (byt 166) 95 = .ok (.iload_n 2, 1) := by decide +kernel
theorem D166_96 : decode (byt 166) 96 = .ok (.iload 4, 2) := by decide +kernel
theorem D166_98 : decode (byt 166) 98 = .ok (.iastore, 1) := by decide +kernel
theorem D166_99 : decode (byt 166) 99 = .ok (.iinc 2 1, 3) := by decide +kernel
theorem D166_102 : decode (byt 166) 102 = .ok (.goto (-100), 3) := by decide +kernel
theorem D166_105 : decode (byt 166) 105 = .ok (.return_, 1) := by decide +kernel
theorem D167_0 : decode (byt 167) 0 = .ok (.aload_n 0, 1) := by decide +kernel
theorem D167_1 : decode (byt 167) 1 = .ok (.iload_n 1, 1) := by decide +kernel
theorem D167_2 : decode (byt 167) 2 = .ok (.iload_n 2, 1) := by decide +kernel
theorem D167_3 : decode (byt 167) 3 = .ok (.invokevirtual 266, 3) := by decide +kernel
theorem D167_6 : decode (byt 167) 6 = .ok (.istore 4, 2) := by decide +kernel
theorem D167_8 : decode (byt 167) 8 = .ok (.iload 4, 2) := by decide +kernel
theorem D167_10 : decode (byt 167) 10 = .ok (.ifCond .eq 10, 3) := by decide +kernel
theorem D167_13 : decode (byt 167) 13 = .ok (.aload_n 0, 1) := by decide +kernel
theorem D167_14 : decode (byt 167) 14 = .ok (.iload 4, 2) := by decide +kernel
theorem D167_16 : decode (byt 167) 16 = .ok (.invokevirtual 154, 3) := by decide +kernel
theorem D167_19 : decode (byt 167) 19 = .ok (.ireturn, 1) := by decide +kernel
theorem D167_20 : decode (byt 167) 20 = .ok (.sipush 1500, 3) := by decide +kernel
theorem D167_23 : decode (byt 167) 23 = .ok (.iload_n 1, 1) := by decide +kernel
theorem D167_24 : decode (byt 167) 24 = .ok (.imul, 1) := by decide +kernel
theorem D167_25 : decode (byt 167) 25 = .ok (.iload_n 2, 1) := by decide +kernel
theorem D167_26 : decode (byt 167) 26 = .ok (.iadd, 1) := by decide +kernel
theorem D167_27 : decode (byt 167) 27 = .ok (.istore 5, 2) := by decide +kernel
theorem D167_29 : decode (byt 167) 29 = .ok (.iload_n 3, 1) := by decide +kernel
theorem D167_30 : decode (byt 167) 30 = .ok (.tableswitch 66 0 3 #[30, 38, 46, 54], 30) := by decide +kernel
theorem D167_60 : decode (byt 167) 60 = .ok (.aload_n 0, 1) := by decide +kernel
theorem D167_61 : decode (byt 167) 61 = .ok (.getfield 43, 3) := by decide +kernel
theorem D167_64 : decode (byt 167) 64 = .ok (.iload 5, 2) := by decide +kernel
theorem D167_66 : decode (byt 167) 66 = .ok (.iaload, 1) := by decide +kernel
theorem D167_67 : decode (byt 167) 67 = .ok (.ireturn, 1) := by decide +kernel
theorem D167_68 : decode (byt 167) 68 = .ok (.aload_n 0, 1) := by decide +kernel
theorem D167_69 : decode (byt 167) 69 = .ok (.getfield 46, 3) := by decide +kernel
theorem D167_72 : decode (byt 167) 72 = .ok (.iload 5, 2) := by decide +kernel
theorem D167_74 : decode (byt 167) 74 = .ok (.iaload, 1) := by decide +kernel
theorem D167_75 : decode (byt 167) 75 = .ok (.ireturn, 1) := by decide +kernel
theorem D167_76 : decode (byt 167) 76 = .ok (.aload_n 0, 1) := by decide +kernel
theorem D167_77 : decode (byt 167) 77 = .ok (.getfield 52, 3) := by decide +kernel
theorem D167_80 : decode (byt 167) 80 = .ok (.iload 5, 2) := by decide +kernel
theorem D167_82 : decode (byt 167) 82 = .ok (.iaload, 1) := by decide +kernel
theorem D167_83 : decode (byt 167) 83 = .ok (.ireturn, 1) := by decide +kernel
theorem D167_84 : decode (byt 167) 84 = .ok (.aload_n 0, 1) := by decide +kernel
theorem D167_85 : decode (byt 167) 85 = .ok (.iload_n 1, 1) := by decide +kernel
theorem D167_86 : decode (byt 167) 86 = .ok (.invokevirtual 269, 3) := by decide +kernel
theorem D167_89 : decode (byt 167) 89 = .ok (.aload_n 0, 1) := by decide +kernel
theorem D167_90 : decode (byt 167) 90 = .ok (.getfield 117, 3) := by decide +kernel
theorem D167_93 : decode (byt 167) 93 = .ok (.iload_n 2, 1) := by decide +kernel
theorem D167_94 : decode (byt 167) 94 = .ok (.iaload, 1) := by decide +kernel
theorem D167_95 : decode (byt 167) 95 = .ok (.ireturn, 1) := by decide +kernel
theorem D167_96 : decode (byt 167) 96 = .ok (.aload_n 0, 1) := by decide +kernel
theorem D167_97 : decode (byt 167) 97 = .ok (.bipush (-7), 2) := by decide +kernel
theorem D167_99 : decode (byt 167) 99 = .ok (.invokevirtual 154, 3) := by decide +kernel
theorem D167_102 : decode (byt 167) 102 = .ok (.ireturn, 1) := by decide +kernel
theorem D168_0 : decode (byt 168) 0 = .ok (.aload_n 0, 1) := by decide +kernel
theorem D168_1 : decode (byt 168) 1 = .ok (.iload_n 1, 1) := by decide +kernel
theorem D168_2 : decode (byt 168) 2 = .ok (.iload_n 2, 1) := by decide +kernel
theorem D168_3 : decode (byt 168) 3 = .ok (.invokevirtual 266, 3) := by decide +kernel
theorem D168_6 : decode (byt 168) 6 = .ok (.istore 4, 2) := by decide +kernel
theorem D168_8 : decode (byt 168) 8 = .ok (.iload 4, 2) := by decide +kernel
theorem D168_10 : decode (byt 168) 10 = .ok (.ifCond .eq 6, 3) := by decide +kernel
theorem D168_13 : decode (byt 168) 13 = .ok (.iload 4, 2) := by decide +kernel
theorem D168_15 : decode (byt 168) 15 = .ok (.ireturn, 1) := by decide +kernel
theorem D168_16 : decode (byt 168) 16 = .ok (.sipush 1500, 3) := by decide +kernel
theorem D168_19 : decode (byt 168) 19 = .ok (.iload_n 1, 1) := by decide +kernel
theorem D168_20 : decode (byt 168) 20 = .ok (.imul, 1) := by decide +kernel
theorem D168_21 : decode (byt 168) 21 = .ok (.iload_n 2, 1) := by decide +kernel
theorem D168_22 : decode (byt 168) 22 = .ok (.iadd, 1) := by decide +kernel
theorem D168_23 : decode (byt 168) 23 = .ok (.istore 5, 2) := by decide +kernel
theorem D168_25 : decode (byt 168) 25 = .ok (.aload_n 0, 1) := by decide +kernel
theorem D168_26 : decode (byt 168) 26 = .ok (.getfield 43, 3) := by decide +kernel
theorem D168_29 : decode (byt 168) 29 = .ok (.iload 5, 2) := by decide +kernel
theorem D168_31 : decode (byt 168) 31 = .ok (.iaload, 1) := by decide +kernel
theorem D168_32 : decode (byt 168) 32 = .ok (.iconst 3, 1) := by decide +kernel
theorem D168_33 : decode (byt 168) 33 = .ok (.if_icmp .ge 6, 3) := by decide +kernel
theorem D168_36 : decode (byt 168) 36 = .ok (.bipush (-5), 2) := by decide +kernel
theorem D168_38 : decode (byt 168) 38 = .ok (.ireturn, 1) := by decide +kernel
theorem D168_39 : decode (byt 168) 39 = .ok (.iload_n 3, 1) := by decide +kernel
theorem D168_40 : decode (byt 168) 40 = .ok (.i2l, 1) := by decide +kernel
theorem D168_41 : decode (byt 168) 41 = .ok (.lconst 0, 1) := by decide +kernel
theorem D168_42 : decode (byt 168) 42 = .ok (.aload_n 0, 1) := by decide +kernel
theorem D168_43 : decode (byt 168) 43 = .ok (.getfield 52, 3) := by decide +kernel
theorem D168_46 : decode (byt 168) 46 = .ok (.iload 5, 2) := by decide +kernel
theorem D168_48 : decode (byt 168) 48 = .ok (.iaload, 1) := by decide +kernel
theorem D168_49 : decode (byt 168) 49 = .ok (.iconst 1, 1) := by decide +kernel
theorem D168_50 : decode (byt 168) 50 = .ok (.isub, 1) := by decide +kernel
theorem D168_51 : decode (byt 168) 51 = .ok (.i2l, 1) := by decide +kernel
theorem D168_52 : decode (byt 168) 52 = .ok (.invokestatic 146, 3) := by decide +kernel
theorem D168_55 : decode (byt 168) 55 = .ok (.ifCond .eq 7, 3) := by decide +kernel
theorem D168_58 : decode (byt 168) 58 = .ok (.iconst 0, 1) := by decide +kernel
theorem D168_59 : decode (byt 168) 59 = .ok (.goto 5, 3) := by decide +kernel
theorem D168_62 : decode (byt 168) 62 = .ok (.bipush (-3), 2) := by decide +kernel
theorem D168_64 : decode (byt 168) 64 = .ok (.ireturn, 1) := by decide +kernel
theorem D169_0 : decode (byt 169) 0 = .ok (.aload_n 0, 1) := by decide +kernel
theorem D169_1 : decode (byt 169) 1 = .ok (.iload_n 1, 1) := by decide +kernel
theorem D169_2 : decode (byt 169) 2 = .ok (.iload_n 2, 1) := by decide +kernel
theorem D169_3 : decode (byt 169) 3 = .ok (.iload_n 3, 1) := by decide +kernel
theorem D169_4 : decode (byt 169) 4 = .ok (.invokevirtual 272, 3) := by decide +kernel
theorem D169_7 : decode (byt 169) 7 = .ok (.istore 4, 2) := by decide +kernel
theorem D169_9 : decode (byt 169) 9 = .ok (.iload 4, 2) := by decide +kernel
theorem D169_11 : decode (byt 169) 11 = .ok (.ifCond .eq 12, 3) := by decide +kernel
theorem D169_14 : decode (byt 169) 14 = .ok (.aload_n 0, 1) := by decide +kernel
theorem D169_15 : decode (byt 169) 15 = .ok (.iload 4, 2) := by decide +kernel
theorem D169_17 : decode (byt 169) 17 = .ok (.invokevirtual 154, 3) := by decide +kernel
theorem D169_20 : decode (byt 169) 20 = .ok (.goto 22, 3) := by decide +kernel
theorem D169_23 : decode (byt 169) 23 = .ok (.aload_n 0, 1) := by decide +kernel
theorem D169_24 : decode (byt 169) 24 = .ok (.getfield 56, 3) := by decide +kernel
theorem D169_27 : decode (byt 169) 27 = .ok (.aload_n 0, 1) := by decide +kernel
theorem D169_28 : decode (byt 169) 28 = .ok (.getfield 49, 3) := by decide +kernel
theorem D169_31 : decode (byt 169) 31 = .ok (.sipush 1500, 3) := by decide +kernel
theorem D169_34 : decode (byt 169) 34 = .ok (.iload_n 1, 1) := by decide +kernel
theorem D169_35 : decode (byt 169) 35 = .ok (.imul, 1) := by decide +kernel
theorem D169_36 : decode (byt 169) 36 = .ok (.iload_n 2, 1) := by decide +kernel
theorem D169_37 : decode (byt 169) 37 = .ok (.iadd, 1) := by decide +kernel
theorem D169_38 : decode (byt 169) 38 = .ok (.iaload, 1) := by decide +kernel
theorem D169_39 : decode (byt 169) 39 = .ok (.iload_n 3, 1) := by decide +kernel
theorem D169_40 : decode (byt 169) 40 = .ok (.iadd, 1) := by decide +kernel
theorem D169_41 : decode (byt 169) 41 = .ok (.iaload, 1) := by decide +kernel
theorem D169_42 : decode (byt 169) 42 = .ok (.ireturn, 1) := by decide +kernel
theorem D170_0 : decode (byt 170) 0 = .ok (.aload_n 0, 1) := by decide +kernel
theorem D170_1 : decode (byt 170) 1 = .ok (.iload_n 1, 1) := by decide +kernel
theorem D170_2 : decode (byt 170) 2 = .ok (.iload_n 2, 1) := by decide +kernel
theorem D170_3 : decode (byt 170) 3 = .ok (.iload_n 3, 1) := by decide +kernel
theorem D170_4 : decode (byt 170) 4 = .ok (.invokevirtual 272, 3) := by decide +kernel
theorem D170_7 : decode (byt 170) 7 = .ok (.istore 5, 2) := by decide +kernel
theorem D170_9 : decode (byt 170) 9 = .ok (.iload 5, 2) := by decide +kernel
theorem D170_11 : decode (byt 170) 11 = .ok (.ifCond .ne 21, 3) := by decide +kernel
theorem D170_14 : decode (byt 170) 14 = .ok (.iload 4, 2) := by decide +kernel
theorem D170_16 : decode (byt 170) 16 = .ok (.i2l, 1) := by decide +kernel
theorem D170_17 : decode (byt 170) 17 = .ok (.lconst 0, 1) := by decide +kernel
theorem D170_18 : decode (byt 170) 18 = .ok (.iload_n 2, 1) := by decide +kernel
theorem D170_19 : decode (byt 170) 19 = .ok (.iconst 1, 1) := by decide +kernel
theorem D170_20 : decode (byt 170) 20 = .ok (.isub, 1) := by decide +kernel
theorem D170_21 : decode (byt 170) 21 = .ok (.i2l, 1) := by decide +kernel
theorem D170_22 : decode (byt 170) 22 = .ok (.invokestatic 146, 3) := by decide +kernel
theorem D170_25 : decode (byt 170) 25 = .ok (.ifCond .ne 7, 3) := by decide +kernel
theorem D170_28 : decode (byt 170) 28 = .ok (.bipush (-3), 2) := by decide +kernel
theorem D170_30 : decode (byt 170) 30 = .ok (.istore 5, 2) := by decide +kernel
theorem D170_32 : decode (byt 170) 32 = .ok (.iload 5, 2) := by decide +kernel
theorem D170_34 : decode (byt 170) 34 = .ok (.ifCond .eq 10, 3) := by decide +kernel
theorem D170_37 : decode (byt 170) 37 = .ok (.aload_n 0, 1) := by decide +kernel
theorem D170_38 : decode (byt 170) 38 = .ok (.iload 5, 2) := by decide +kernel
theorem D170_40 : decode (byt 170) 40 = .ok (.invokevirtual 154, 3) := by decide +kernel
theorem D170_43 : decode (byt 170) 43 = .ok (.ireturn, 1) := by decide +kernel
theorem D170_44 : decode (byt 170) 44 = .ok (.aload_n 0, 1) := by decide +kernel
theorem D170_45 : decode (byt 170) 45 = .ok (.getfield 49, 3) := by decide +kernel
theorem D170_48 : decode (byt 170) 48 = .ok (.sipush 1500, 3) := by decide +kernel
theorem D170_51 : decode (byt 170) 51 = .ok (.iload_n 1, 1) := by decide +kernel
theorem D170_52 : decode (byt 170) 52 = .ok (.imul, 1) := by decide +kernel
theorem D170_53 : decode (byt 170) 53 = .ok (.iload_n 2, 1) := by decide +kernel
theorem D170_54 : decode (byt 170) 54 = .ok (.iadd, 1) := by decide +kernel
theorem D170_55 : decode (byt 170) 55 = .ok (.iaload, 1) := by decide +kernel
theorem D170_56 : decode (byt 170) 56 = .ok (.iload_n 3, 1) := by decide +kernel
theorem D170_57 : decode (byt 170) 57 = .ok (.iadd, 1) := by decide +kernel
theorem D170_58 : decode (byt 170) 58 = .ok (.istore 6, 2) := by decide +kernel
theorem D170_60 : decode (byt 170) 60 = .ok (.aload_n 0, 1) := by decide +kernel
theorem D170_61 : decode (byt 170) 61 = .ok (.getfield 56, 3) := by decide +kernel
theorem D170_64 : decode (byt 170) 64 = .ok (.iload 6, 2) := by decide +kernel
theorem D170_66 : decode (byt 170) 66 = .ok (.iaload, 1) := by decide +kernel
theorem D170_67 : decode (byt 170) 67 = .ok (.istore 7, 2) := by decide +kernel
theorem D170_69 : decode (byt 170) 69 = .ok (.aload_n 0, 1) := by decide +kernel
theorem D170_70 : decode (byt 170) 70 = .ok (.getfield 56, 3) := by decide +kernel
theorem D170_73 : decode (byt 170) 73 = .ok (.iload 6, 2) := by decide +kernel
theorem D170_75 : decode (byt 170) 75 = .ok (.iload 4, 2) := by decide +kernel
theorem D170_77 : decode (byt 170) 77 = .ok (.iastore, 1) := by decide +kernel
theorem D170_78 : decode (byt 170) 78 = .ok (.aload_n 0, 1) := by decide +kernel
theorem D170_79 : decode (byt 170) 79 = .ok (.getfield 127, 3) := by decide +kernel
theorem D170_82 : decode (byt 170) 82 = .ok (.iload_n 1, 1) := by decide +kernel
theorem D170_83 : decode (byt 170) 83 = .ok (.iconst 0, 1) := by decide +kernel
theorem D170_84 : decode (byt 170) 84 = .ok (.bastore, 1) := by decide +kernel
theorem D170_85 : decode (byt 170) 85 = .ok (.iload 7, 2) := by decide +kernel
theorem D170_87 : decode (byt 170) 87 = .ok (.ireturn, 1) := by decide +kernel
theorem D171_0 : decode (byt 171) 0 = .ok (.iload_n 2, 1) := by decide +kernel
theorem D171_1 : decode (byt 171) 1 = .ok (.ifCond .le 27, 3) := by decide +kernel
theorem D171_4 : decode (byt 171) 4 = .ok (.iload_n 3, 1) := by decide +kernel
theorem D171_5 : decode (byt 171) 5 = .ok (.aload_n 0, 1) := by decide +kernel
theorem D171_6 : decode (byt 171) 6 = .ok (.getfield 7, 3) := by decide +kernel
theorem D171_9 : decode (byt 171) 9 = .ok (.iload_n 1, 1) := by decide +kernel
theorem D171_10 : decode (byt 171) 10 = .ok (.iaload, 1) := by decide +kernel
theorem D171_11 : decode (byt 171) 11 = .ok (.iload_n 2, 1) := by decide +kernel
theorem D171_12 : decode (byt 171) 12 = .ok (.isub, 1) := by decide +kernel
theorem D171_13 : decode (byt 171) 13 = .ok (.ishr, 1) := by decide +kernel
theorem D171_14 : decode (byt 171) 14 = .ok (.iconst 1, 1) := by decide +kernel
theorem D171_15 : decode (byt 171) 15 = .ok (.iand, 1) := by decide +kernel
theorem D171_16 : decode (byt 171) 16 = .ok (.iconst 1, 1) := by decide +kernel
theorem D171_17 : decode (byt 171) 17 = .ok (.if_icmp .ne 7, 3) := by decide +kernel
theorem D171_20 : decode (byt 171) 20 = .ok (.iconst 1, 1) := by decide +kernel
theorem D171_21 : decode (byt 171) 21 = .ok (.goto 27, 3) := by decide +kernel
theorem D171_24 : decode (byt 171) 24 = .ok (.iconst 0, 1) := by decide +kernel
theorem D171_25 : decode (byt 171) 25 = .ok (.goto 23, 3) := by decide +kernel
theorem D171_28 : decode (byt 171) 28 = .ok (.iload_n 3, 1) := by decide +kernel
theorem D171_29 : decode (byt 171) 29 = .ok (.aload_n 0, 1) := by decide +kernel
theorem D171_30 : decode (byt 171) 30 = .ok (.getfield 7, 3) := by decide +kernel
theorem D171_33 : decode (byt 171) 33 = .ok (.iload_n 1, 1) := by decide +kernel
theorem D171_34 : decode (byt 171) 34 = .ok (.iaload, 1) := by decide +kernel
theorem D171_35 : decode (byt 171) 35 = .ok (.iload_n 2, 1) := by decide +kernel
theorem D171_36 : decode (byt 171) 36 = .ok (.iadd, 1) := by decide +kernel
theorem D171_37 : decode (byt 171) 37 = .ok (.ishr, 1) := by decide +kernel
theorem D171_38 : decode (byt 171) 38 = .ok (.iconst 1, 1) := by decide +kernel
theorem D171_39 : decode (byt 171) 39 = .ok (.iand, 1) := by decide +kernel
theorem D171_40 : decode (byt 171) 40 = .ok (.ifCond .ne 7, 3) := by decide +kernel
theorem D171_43 : decode (byt 171) 43 = .ok (.iconst 1, 1) := by decide +kernel
theorem D171_44 : decode (byt 171) 44 = .ok (.goto 4, 3) := by decide +kernel
theorem D171_47 : decode (byt 171) 47 = .ok (.iconst 0, 1) := by decide +kernel
theorem D171_48 : decode (byt 171) 48 = .ok (.ireturn, 1) := by decide +kernel
theorem D172_0 : decode (byt 172) 0 = .ok (.sipush 1500, 3) := by decide +kernel
theorem D172_3 : decode (byt 172) 3 = .ok (.iload_n 1, 1) := by decide +kernel
theorem D172_4 : decode (byt 172) 4 = .ok (.imul, 1) := by decide +kernel
theorem D172_5 : decode (byt 172) 5 = .ok (.iload_n 2, 1) := by decide +kernel
theorem D172_6 : decode (byt 172) 6 = .ok (.iadd, 1) := by decide +kernel
theorem D172_7 : decode (byt 172) 7 = .ok (.istore 4, 2) := by decide +kernel
theorem D172_9 : decode (byt 172) 9 = .ok (.aload_n 0, 1) := by decide +kernel
theorem D172_10 : decode (byt 172) 10 = .ok (.getfield 43, 3) := by decide +kernel
theorem D172_13 : decode (byt 172) 13 = .ok (.iload 4, 2) := by decide +kernel
theorem D172_15 : decode (byt 172) 15 = .ok (.iaload, 1) := by decide +kernel
theorem D172_16 : decode (byt 172) 16 = .ok (.iconst 2, 1) := by decide +kernel
theorem D172_17 : decode (byt 172) 17 = .ok (.if_icmp .ne 17, 3) := by decide +kernel
theorem D172_20 : decode (byt 172) 20 = .ok (.aload_n 0, 1) := by decide +kernel
theorem D172_21 : decode (byt 172) 21 = .ok (.iload_n 1, 1) := by decide +kernel
theorem D172_22 : decode (byt 172) 22 = .ok (.aload_n 0, 1) := by decide +kernel
theorem D172_23 : decode (byt 172) 23 = .ok (.getfield 46, 3) := by decide +kernel
theorem D172_26 : decode (byt 172) 26 = .ok (.iload 4, 2) := by decide +kernel
theorem D172_28 : decode (byt 172) 28 = .ok (.iaload, 1) := by decide +kernel
theorem D172_29 : decode (byt 172) 29 = .ok (.iload_n 3, 1) := by decide +kernel
theorem D172_30 : decode (byt 172) 30 = .ok (.invokevirtual 275, 3) := by decide +kernel
theorem D172_33 : decode (byt 172) 33 = .ok (.ireturn, 1) := by decide +kernel
theorem D172_34 : decode (byt 172) 34 = .ok (.aload_n 0, 1) := by decide +kernel
theorem D172_35 : decode (byt 172) 35 = .ok (.getfield 43, 3) := by decide +kernel
theorem D172_38 : decode (byt 172) 38 = .ok (.iload 4, 2) := by decide +kernel
theorem D172_40 : decode (byt 172) 40 = .ok (.iaload, 1) := by decide +kernel
theorem D172_41 : decode (byt 172) 41 = .ok (.iconst 4, 1) := by decide +kernel
theorem D172_42 : decode (byt 172) 42 = .ok (.if_icmp .ne 43, 3) := by decide +kernel
theorem D172_45 : decode (byt 172) 45 = .ok (.aload_n 0, 1) := by decide +kernel
theorem D172_46 : decode (byt 172) 46 = .ok (.getfield 124, 3) := by decide +kernel
theorem D172_49 : decode (byt 172) 49 = .ok (.aload_n 0, 1) := by decide +kernel
theorem D172_50 : decode (byt 172) 50 = .ok (.getfield 56, 3) := by decide +kernel
theorem D172_53 : decode (byt 172) 53 = .ok (.aload_n 0, 1) := by decide +kernel
theorem D172_54 : decode (byt 172) 54 = .ok (.getfield 49, 3) := by decide +kernel
theorem D172_57 : decode (byt 172) 57 = .ok (.iload 4, 2) := by decide +kernel
theorem D172_59 : decode (byt 172) 59 = .ok (.iaload, 1) := by decide +kernel
theorem D172_60 : decode (byt 172) 60 = .ok (.aload_n 0, 1) := by decide +kernel
theorem D172_61 : decode (byt 172) 61 = .ok (.iload_n 1, 1) := by decide +kernel
theorem D172_62 : decode (byt 172) 62 = .ok (.aload_n 0, 1) := by decide +kernel
theorem D172_63 : decode (byt 172) 63 = .ok (.getfield 46, 3) := by decide +kernel
theorem D172_66 : decode (byt 172) 66 = .ok (.iload 4, 2) := by decide +kernel
theorem D172_68 : decode (byt 172) 68 = .ok (.iaload, 1) := by decide +kernel
theorem D172_69 : decode (byt 172) 69 = .ok (.iload_n 3, 1) := by decide +kernel
theorem D172_70 : decode (byt 172) 70 = .ok (.invokevirtual 275, 3) := by decide +kernel
theorem D172_73 : decode (byt 172) 73 = .ok (.ifCond .eq 7, 3) := by decide +kernel
theorem D172_76 : decode (byt 172) 76 = .ok (.iconst 0, 1) := by decide +kernel
theorem D172_77 : decode (byt 172) 77 = .ok (.goto 4, 3) := by decide +kernel
theorem D172_80 : decode (byt 172) 80 = .ok (.iconst 1, 1) := by decide +kernel
theorem D172_81 : decode (byt 172) 81 = .ok (.iadd, 1) := by decide +kernel
theorem D172_82 : decode (byt 172) 82 = .ok (.iaload, 1) := by decide +kernel
theorem D172_83 : decode (byt 172) 83 = .ok (.baload, 1) := by decide +kernel
theorem D172_84 : decode (byt 172) 84 = .ok (.ireturn, 1) := by decide +kernel
theorem D172_85 : decode (byt 172) 85 = .ok (.aload_n 0, 1) := by decide +kernel
theorem D172_86 : decode (byt 172) 86 = .ok (.getfield 43, 3) := by decide +kernel
theorem D172_89 : decode (byt 172) 89 = .ok (.iload 4, 2) := by decide +kernel
theorem D172_91 : decode (byt 172) 91 = .ok (.iaload, 1) := by decide +kernel
theorem D172_92 : decode (byt 172) 92 = .ok (.iconst 1, 1) := by decide +kernel
theorem D172_93 : decode (byt 172) 93 = .ok (.if_icmp .eq 7, 3) := by decide +kernel
theorem D172_96 : decode (byt 172) 96 = .ok (.iconst 1, 1) := by decide +kernel
theorem D172_97 : decode (byt 172) 97 = .ok (.goto 4, 3) := by decide +kernel
theorem D172_100 : decode (byt 172) 100 = .ok (.iconst 0, 1) := by decide +kernel
theorem D172_101 : decode (byt 172) 101 = .ok (.istore 5, 2) := by decide +kernel
theorem D172_103 : decode (byt 172) 103 = .ok (.iconst 0, 1) := by decide +kernel
theorem D172_104 : decode (byt 172) 104 = .ok (.istore 6, 2) := by decide +kernel
theorem D172_106 : decode (byt 172) 106 = .ok (.iload 6, 2) := by decide +kernel
theorem D172_108 : decode (byt 172) 108 = .ok (.aload_n 0, 1) := by decide +kernel
theorem D172_109 : decode (byt 172) 109 = .ok (.getfield 52, 3) := by decide +kernel
theorem D172_112 : decode (byt 172) 112 = .ok (.iload 4, 2) := by decide +kernel
theorem D172_114 : decode (byt 172) 114 = .ok (.iaload, 1) := by decide +kernel
theorem D172_115 : decode (byt 172) 115 = .ok (.if_icmp .ge 44, 3) := by decide +kernel
theorem D172_118 : decode (byt 172) 118 = .ok (.iload 5, 2) := by decide +kernel
theorem D172_120 : decode (byt 172) 120 = .ok (.ifCond .eq 30, 3) := by decide +kernel
theorem D172_123 : decode (byt 172) 123 = .ok (.aload_n 0, 1) := by decide +kernel
theorem D172_124 : decode (byt 172) 124 = .ok (.getfield 124, 3) := by decide +kernel
theorem D172_127 : decode (byt 172) 127 = .ok (.aload_n 0, 1) := by decide +kernel
theorem D172_128 : decode (byt 172) 128 = .ok (.getfield 56, 3) := by decide +kernel
theorem D172_131 : decode (byt 172) 131 = .ok (.aload_n 0, 1) := by decide +kernel
theorem D172_132 : decode (byt 172) 132 = .ok (.getfield 49, 3) := by decide +kernel
theorem D172_135 : decode (byt 172) 135 = .ok (.iload 4, 2) := by decide +kernel
theorem D172_137 : decode (byt 172) 137 = .ok (.iaload, 1) := by decide +kernel
theorem D172_138 : decode (byt 172) 138 = .ok (.iload 6, 2) := by decide +kernel
theorem D172_140 : decode (byt 172) 140 = .ok (.iadd, 1) := by decide +kernel
theorem D172_141 : decode (byt 172) 141 = .ok (.iaload, 1) := by decide +kernel
theorem D172_142 : decode (byt 172) 142 = .ok (.baload, 1) := by decide +kernel
theorem D172_143 : decode (byt 172) 143 = .ok (.ifCond .eq 7, 3) := by decide +kernel
theorem D172_146 : decode (byt 172) 146 = .ok (.iconst 1, 1) := by decide +kernel
theorem D172_147 : decode (byt 172) 147 = .ok (.goto 4, 3) := by decide +kernel
theorem D172_150 : decode (byt 172) 150 = .ok (.iconst 0, 1) := by decide +kernel
theorem D172_151 : decode (byt 172) 151 = .ok (.istore 5, 2) := by decide +kernel
theorem D172_153 : decode (byt 172) 153 = .ok (.iinc 6 1, 3) := by decide +kernel
theorem D172_156 : decode (byt 172) 156 = .ok (.goto (-50), 3) := by decide +kernel
theorem D172_159 : decode (byt 172) 159 = .ok (.iload 5, 2) := by decide +kernel
theorem D172_161 : decode (byt 172) 161 = .ok (.ireturn, 1) := by decide +kernel
theorem D173_0 : decode (byt 173) 0 = .ok (.aload_n 0, 1) := by decide +kernel
theorem D173_1 : decode (byt 173) 1 = .ok (.getfield 127, 3) := by decide +kernel
theorem D173_4 : decode (byt 173) 4 = .ok (.iload_n 1, 1) := by decide +kernel
theorem D173_5 : decode (byt 173) 5 = .ok (.baload, 1) := by decide +kernel
theorem D173_6 : decode (byt 173) 6 = .ok (.ifCond .eq 4, 3) := by decide +kernel
theorem D173_9 : decode (byt 173) 9 = .ok (.return_, 1) := by decide +kernel
theorem D173_10 : decode (byt 173) 10 = .ok (.aload_n 0, 1) := by decide +kernel
theorem D173_11 : decode (byt 173) 11 = .ok (.getfield 127, 3) := by decide +kernel
theorem D173_14 : decode (byt 173) 14 = .ok (.iload_n 1, 1) := by decide +kernel
theorem D173_15 : decode (byt 173) 15 = .ok (.iconst 1, 1) := by decide +kernel
theorem D173_16 : decode (byt 173) 16 = .ok (.bastore, 1) := by decide +kernel
theorem D173_17 : decode (byt 173) 17 = .ok (.iconst 0, 1) := by decide +kernel
theorem D173_18 : decode (byt 173) 18 = .ok (.istore_n 2, 1) := by decide +kernel
theorem D173_19 : decode (byt 173) 19 = .ok (.iload_n 2, 1) := by decide +kernel
theorem D173_20 : decode (byt 173) 20 = .ok (.iconst 1, 1) := by decide +kernel
theorem D173_21 : decode (byt 173) 21 = .ok (.aload_n 0, 1) := by decide +kernel
theorem D173_22 : decode (byt 173) 22 = .ok (.getfield 7, 3) := by decide +kernel
theorem D173_25 : decode (byt 173) 25 = .ok (.iload_n 1, 1) := by decide +kernel
theorem D173_26 : decode (byt 173) 26 = .ok (.iaload, 1) := by decide +kernel
theorem D173_27 : decode (byt 173) 27 = .ok (.ishl, 1) := by decide +kernel
theorem D173_28 : decode (byt 173) 28 = .ok (.if_icmp .ge 63, 3) := by decide +kernel
theorem D173_31 : decode (byt 173) 31 = .ok (.iconst 0, 1) := by decide +kernel
theorem D173_32 : decode (byt 173) 32 = .ok (.istore_n 3, 1) := by decide +kernel
theorem D173_33 : decode (byt 173) 33 = .ok (.iload_n 3, 1) := by decide +kernel
theorem D173_34 : decode (byt 173) 34 = .ok (.aload_n 0, 1) := by decide +kernel
theorem D173_35 : decode (byt 173) 35 = .ok (.getfield 37, 3) := by decide +kernel
theorem D173_38 : decode (byt 173) 38 = .ok (.iload_n 1, 1) := by decide +kernel
theorem D173_39 : decode (byt 173) 39 = .ok (.iaload, 1) := by decide +kernel
theorem D173_40 : decode (byt 173) 40 = .ok (.if_icmp .gt 22, 3) := by decide +kernel
theorem D173_43 : decode (byt 173) 43 = .ok (.aload_n 0, 1) := by decide +kernel
theorem D173_44 : decode (byt 173) 44 = .ok (.getfield 124, 3) := by decide +kernel
theorem D173_47 : decode (byt 173) 47 = .ok (.iload_n 3, 1) := by decide +kernel
theorem D173_48 : decode (byt 173) 48 = .ok (.aload_n 0, 1) := by decide +kernel
theorem D173_49 : decode (byt 173) 49 = .ok (.iload_n 1, 1) := by decide +kernel
theorem D173_50 : decode (byt 173) 50 = .ok (.iload_n 3, 1) := by decide +kernel
theorem D173_51 : decode (byt 173) 51 = .ok (.iload_n 2, 1) := by decide +kernel
theorem D173_52 : decode (byt 173) 52 = .ok (.invokevirtual 279, 3) := by decide +kernel
theorem D173_55 : decode (byt 173) 55 = .ok (.bastore, 1) := by decide +kernel
theorem D173_56 : decode (byt 173) 56 = .ok (.iinc 3 1, 3) := by decide +kernel
theorem D173_59 : decode (byt 173) 59 = .ok (.goto (-26), 3) := by decide +kernel
theorem D173_62 : decode (byt 173) 62 = .ok (.aload_n 0, 1) := by decide +kernel
theorem D173_63 : decode (byt 173) 63 = .ok (.getfield 120, 3) := by decide +kernel
theorem D173_66 : decode (byt 173) 66 = .ok (.sipush 4096, 3) := by decide +kernel
theorem D173_69 : decode (byt 173) 69 = .ok (.iload_n 1, 1) := by decide +kernel
theorem D173_70 : decode (byt 173) 70 = .ok (.imul, 1) := by decide +kernel
theorem D173_71 : decode (byt 173) 71 = .ok (.iload_n 2, 1) := by decide +kernel
theorem D173_72 : decode (byt 173) 72 = .ok (.iadd, 1) := by decide +kernel
theorem D173_73 : decode (byt 173) 73 = .ok (.aload_n 0, 1) := by decide +kernel
theorem D173_74 : decode (byt 173) 74 = .ok (.getfield 124, 3) := by decide +kernel
theorem D173_77 : decode (byt 173) 77 = .ok (.aload_n 0, 1) := by decide +kernel
theorem D173_78 : decode (byt 173) 78 = .ok (.getfield 37, 3) := by decide +kernel
theorem D173_81 : decode (byt 173) 81 = .ok (.iload_n 1, 1) := by decide +kernel
theorem D173_82 : decode (byt 173) 82 = .ok (.iaload, 1) := by decide +kernel
theorem D173_83 : decode (byt 173) 83 = .ok (.baload, 1) := by decide +kernel
theorem D173_84 : decode (byt 173) 84 = .ok (.bastore, 1) := by decide +kernel
theorem D173_85 : decode (byt 173) 85 = .ok (.iinc 2 1, 3) := by decide +kernel
theorem D173_88 : decode (byt 173) 88 = .ok (.goto (-69), 3) := by decide +kernel
theorem D173_91 : decode (byt 173) 91 = .ok (.return_, 1) := by decide +kernel
theorem D174_0 : decode (byt 174) 0 = .ok (.iconst 0, 1) := by decide +kernel
theorem D174_1 : decode (byt 174) 1 = .ok (.istore_n 3, 1) := by decide +kernel
theorem D174_2 : decode (byt 174) 2 = .ok (.iload_n 3, 1) := by decide +kernel
theorem D174_3 : decode (byt 174) 3 = .ok (.aload_n 0, 1) := by decide +kernel
theorem D174_4 : decode (byt 174) 4 = .ok (.getfield 16, 3) := by decide +kernel
theorem D174_7 : decode (byt 174) 7 = .ok (.iload_n 1, 1) := by decide +kernel
theorem D174_8 : decode (byt 174) 8 = .ok (.iaload, 1) := by decide +kernel
theorem D174_9 : decode (byt 174) 9 = .ok (.if_icmp .ge 110, 3) := by decide +kernel
theorem D174_12 : decode (byt 174) 12 = .ok (.iconst 0, 1) := by decide +kernel
theorem D174_13 : decode (byt 174) 13 = .ok (.istore 4, 2) := by decide +kernel
theorem D174_15 : decode (byt 174) 15 = .ok (.iconst 1, 1) := by decide +kernel
theorem D174_16 : decode (byt 174) 16 = .ok (.istore 5, 2) := by decide +kernel
theorem D174_18 : decode (byt 174) 18 = .ok (.iload 5, 2) := by decide +kernel
theorem D174_20 : decode (byt 174) 20 = .ok (.aload_n 0, 1) := by decide +kernel
theorem D174_21 : decode (byt 174) 21 = .ok (.getfield 7, 3) := by decide +kernel
theorem D174_24 : decode (byt 174) 24 = .ok (.iload_n 1, 1) := by decide +kernel
theorem D174_25 : decode (byt 174) 25 = .ok (.iaload, 1) := by decide +kernel
theorem D174_26 : decode (byt 174) 26 = .ok (.if_icmp .gt 80, 3) := by decide +kernel
theorem D174_29 : decode (byt 174) 29 = .ok (.aload_n 0, 1) := by decide +kernel
theorem D174_30 : decode (byt 174) 30 = .ok (.getfield 13, 3) := by decide +kernel
theorem D174_33 : decode (byt 174) 33 = .ok (.bipush 40, 2) := by decide +kernel
theorem D174_35 : decode (byt 174) 35 = .ok (.iload_n 1, 1) := by decide +kernel
theorem D174_36 : decode (byt 174) 36 = .ok (.imul, 1) := by decide +kernel
theorem D174_37 : decode (byt 174) 37 = .ok (.iload_n 3, 1) := by decide +kernel
theorem D174_38 : decode (byt 174) 38 = .ok (.iadd, 1) := by decide +kernel
theorem D174_39 : decode (byt 174) 39 = .ok (.iaload, 1) := by decide +kernel
theorem D174_40 : decode (byt 174) 40 = .ok (.istore 6, 2) := by decide +kernel
theorem D174_42 : decode (byt 174) 42 = .ok (.iload 4, 2) := by decide +kernel
theorem D174_44 : decode (byt 174) 44 = .ok (.ifCond .ne 49, 3) := by decide +kernel
theorem D174_47 : decode (byt 174) 47 = .ok (.iload 6, 2) := by decide +kernel
theorem D174_49 : decode (byt 174) 49 = .ok (.iload 5, 2) := by decide +kernel
theorem D174_51 : decode (byt 174) 51 = .ok (.invokestatic 170, 3) := by decide +kernel
theorem D174_54 : decode (byt 174) 54 = .ok (.iand, 1) := by decide +kernel
theorem D174_55 : decode (byt 174) 55 = .ok (.ifCond .eq 14, 3) := by decide +kernel
theorem D174_58 : decode (byt 174) 58 = .ok (.aload_n 0, 1) := by decide +kernel
theorem D174_59 : decode (byt 174) 59 = .ok (.iload_n 1, 1) := by decide +kernel
theorem D174_60 : decode (byt 174) 60 = .ok (.iload 5, 2) := by decide +kernel
theorem D174_62 : decode (byt 174) 62 = .ok (.iload_n 2, 1) := by decide +kernel
theorem D174_63 : decode (byt 174) 63 = .ok (.invokevirtual 275, 3) := by decide +kernel
theorem D174_66 : decode (byt 174) 66 = .ok (.ifCond .ne 27, 3) := by decide +kernel
theorem D174_69 : decode (byt 174) 69 = .ok (.iload 6, 2) := by decide +kernel
theorem D174_71 : decode (byt 174) 71 = .ok (.iload 5, 2) := by decide +kernel
theorem D174_73 : decode (byt 174) 73 = .ok (.ineg, 1) := by decide +kernel
theorem D174_74 : decode (byt 174) 74 = .ok (.invokestatic 170, 3) := by decide +kernel
theorem D174_77 : decode (byt 174) 77 = .ok (.iand, 1) := by decide +kernel
theorem D174_78 : decode (byt 174) 78 = .ok (.ifCond .eq 19, 3) := by decide +kernel
theorem D174_81 : decode (byt 174) 81 = .ok (.aload_n 0, 1) := by decide +kernel
theorem D174_82 : decode (byt 174) 82 = .ok (.iload_n 1, 1) := by decide +kernel
theorem D174_83 : decode (byt 174) 83 = .ok (.iload 5, 2) := by decide +kernel
theorem D174_85 : decode (byt 174) 85 = .ok (.ineg, 1) := by decide +kernel
theorem D174_86 : decode (byt 174) 86 = .ok (.iload_n 2, 1) := by decide +kernel
theorem D174_87 : decode (byt 174) 87 = .ok (.invokevirtual 275, 3) := by decide +kernel
theorem D174_90 : decode (byt 174) 90 = .ok (.ifCond .eq 7, 3) := by decide +kernel
theorem D174_93 : decode (byt 174) 93 = .ok (.iconst 1, 1) := by decide +kernel
theorem D174_94 : decode (byt 174) 94 = .ok (.goto 4, 3) := by decide +kernel
theorem D174_97 : decode (byt 174) 97 = .ok (.iconst 0, 1) := by decide +kernel
theorem D174_98 : decode (byt 174) 98 = .ok (.istore 4, 2) := by decide +kernel
theorem D174_100 : decode (byt 174) 100 = .ok (.iinc 5 1, 3) := by decide +kernel
theorem D174_103 : decode (byt 174) 103 = .ok (.goto (-85), 3) := by decide +kernel
theorem D174_106 : decode (byt 174) 106 = .ok (.iload 4, 2) := by decide +kernel
theorem D174_108 : decode (byt 174) 108 = .ok (.ifCond .ne 5, 3) := by decide +kernel
theorem D174_111 : decode (byt 174) 111 = .ok (.iconst 0, 1) := by decide +kernel
theorem D174_112 : decode (byt 174) 112 = .ok (.ireturn, 1) := by decide +kernel
theorem D174_113 : decode (byt 174) 113 = .ok (.iinc 3 1, 3) := by decide +kernel
theorem D174_116 : decode (byt 174) 116 = .ok (.goto (-114), 3) := by decide +kernel
theorem D174_119 : decode (byt 174) 119 = .ok (.iconst 1, 1) := by decide +kernel
theorem D174_120 : decode (byt 174) 120 = .ok (.ireturn, 1) := by decide +kernel
theorem D175_0 : decode (byt 175) 0 = .ok (.sipush 1500, 3) := by decide +kernel
theorem D175_3 : decode (byt 175) 3 = .ok (.iload_n 1, 1) := by decide +kernel
theorem D175_4 : decode (byt 175) 4 = .ok (.imul, 1) := by decide +kernel
theorem D175_5 : decode (byt 175) 5 = .ok (.iload_n 2, 1) := by decide +kernel
theorem D175_6 : decode (byt 175) 6 = .ok (.iadd, 1) := by decide +kernel
theorem D175_7 : decode (byt 175) 7 = .ok (.istore_n 3, 1) := by decide +kernel
theorem D175_8 : decode (byt 175) 8 = .ok (.iconst 0, 1) := by decide +kernel
theorem D175_9 : decode (byt 175) 9 = .ok (.istore 4, 2) := by decide +kernel
theorem D175_11 : decode (byt 175) 11 = .ok (.iconst 0, 1) := by decide +kernel
theorem D175_12 : decode (byt 175) 12 = .ok (.istore 5, 2) := by decide +kernel
theorem D175_14 : decode (byt 175) 14 = .ok (.iload 5, 2) := by decide +kernel
theorem D175_16 : decode (byt 175) 16 = .ok (.aload_n 0, 1) := by decide +kernel
theorem D175_17 : decode (byt 175) 17 = .ok (.getfield 52, 3) := by decide +kernel
theorem D175_20 : decode (byt 175) 20 = .ok (.iload_n 3, 1) := by decide +kernel
theorem D175_21 : decode (byt 175) 21 = .ok (.iaload, 1) := by decide +kernel
theorem D175_22 : decode (byt 175) 22 = .ok (.if_icmp .ge 47, 3) := by decide +kernel
theorem D175_25 : decode (byt 175) 25 = .ok (.aload_n 0, 1) := by decide +kernel
theorem D175_26 : decode (byt 175) 26 = .ok (.getfield 117, 3) := by decide +kernel
theorem D175_29 : decode (byt 175) 29 = .ok (.aload_n 0, 1) := by decide +kernel
theorem D175_30 : decode (byt 175) 30 = .ok (.getfield 56, 3) := by decide +kernel
theorem D175_33 : decode (byt 175) 33 = .ok (.aload_n 0, 1) := by decide +kernel
theorem D175_34 : decode (byt 175) 34 = .ok (.getfield 49, 3) := by decide +kernel
theorem D175_37 : decode (byt 175) 37 = .ok (.iload_n 3, 1) := by decide +kernel
theorem D175_38 : decode (byt 175) 38 = .ok (.iaload, 1) := by decide +kernel
theorem D175_39 : decode (byt 175) 39 = .ok (.iload 5, 2) := by decide +kernel
theorem D175_41 : decode (byt 175) 41 = .ok (.iadd, 1) := by decide +kernel
theorem D175_42 : decode (byt 175) 42 = .ok (.iaload, 1) := by decide +kernel
theorem D175_43 : decode (byt 175) 43 = .ok (.iaload, 1) := by decide +kernel
theorem D175_44 : decode (byt 175) 44 = .ok (.istore 6, 2) := by decide +kernel
theorem D175_46 : decode (byt 175) 46 = .ok (.iload 4, 2) := by decide +kernel
theorem D175_48 : decode (byt 175) 48 = .ok (.iload 6, 2) := by decide +kernel
theorem D175_50 : decode (byt 175) 50 = .ok (.iand, 1) := by decide +kernel
theorem D175_51 : decode (byt 175) 51 = .ok (.ifCond .eq 5, 3) := by decide +kernel
theorem D175_54 : decode (byt 175) 54 = .ok (.iconst 1, 1) := by decide +kernel
theorem D175_55 : decode (byt 175) 55 = .ok (.ireturn, 1) := by decide +kernel
theorem D175_56 : decode (byt 175) 56 = .ok (.iload 4, 2) := by decide +kernel
theorem D175_58 : decode (byt 175) 58 = .ok (.iload 6, 2) := by decide +kernel
theorem D175_60 : decode (byt 175) 60 = .ok (.ior, 1) := by decide +kernel
theorem D175_61 : decode (byt 175) 61 = .ok (.istore 4, 2) := by decide +kernel
theorem D175_63 : decode (byt 175) 63 = .ok (.iinc 5 1, 3) := by decide +kernel
theorem D175_66 : decode (byt 175) 66 = .ok (.goto (-52), 3) := by decide +kernel
theorem D175_69 : decode (byt 175) 69 = .ok (.iconst 0, 1) := by decide +kernel
theorem D175_70 : decode (byt 175) 70 = .ok (.ireturn, 1) := by decide +kernel
theorem D176_0 : decode (byt 176) 0 = .ok (.sipush 1500, 3) := by decide +kernel
theorem D176_3 : decode (byt 176) 3 = .ok (.iload_n 1, 1) := by decide +kernel
theorem D176_4 : decode (byt 176) 4 = .ok (.imul, 1) := by decide +kernel
theorem D176_5 : decode (byt 176) 5 = .ok (.iload_n 2, 1) := by decide +kernel
theorem D176_6 : decode (byt 176) 6 = .ok (.iadd, 1) := by decide +kernel
theorem D176_7 : decode (byt 176) 7 = .ok (.istore_n 3, 1) := by decide +kernel
theorem D176_8 : decode (byt 176) 8 = .ok (.iconst 0, 1) := by decide +kernel
theorem D176_9 : decode (byt 176) 9 = .ok (.istore 4, 2) := by decide +kernel
theorem D176_11 : decode (byt 176) 11 = .ok (.iconst 0, 1) := by decide +kernel
theorem D176_12 : decode (byt 176) 12 = .ok (.istore 5, 2) := by decide +kernel
theorem D176_14 : decode (byt 176) 14 = .ok (.iload 5, 2) := by decide +kernel
theorem D176_16 : decode (byt 176) 16 = .ok (.aload_n 0, 1) := by decide +kernel
theorem D176_17 : decode (byt 176) 17 = .ok (.getfield 52, 3) := by decide +kernel
theorem D176_20 : decode (byt 176) 20 = .ok (.iload_n 3, 1) := by decide +kernel
theorem D176_21 : decode (byt 176) 21 = .ok (.iaload, 1) := by decide +kernel
theorem D176_22 : decode (byt 176) 22 = .ok (.if_icmp .ge 33, 3) := by decide +kernel
theorem D176_25 : decode (byt 176) 25 = .ok (.iload 4, 2) := by decide +kernel
theorem D176_27 : decode (byt 176) 27 = .ok (.aload_n 0, 1) := by decide +kernel
theorem D176_28 : decode (byt 176) 28 = .ok (.getfield 117, 3) := by decide +kernel
theorem D176_31 : decode (byt 176) 31 = .ok (.aload_n 0, 1) := by decide +kernel
theorem D176_32 : decode (byt 176) 32 = .ok (.getfield 56, 3) := by decide +kernel
theorem D176_35 : decode (byt 176) 35 = .ok (.aload_n 0, 1) := by decide +kernel
theorem D176_36 : decode (byt 176) 36 = .ok (.getfield 49, 3) := by decide +kernel
theorem D176_39 : decode (byt 176) 39 = .ok (.iload_n 3, 1) := by decide +kernel
theorem D176_40 : decode (byt 176) 40 = .ok (.iaload, 1) := by decide +kernel
theorem D176_41 : decode (byt 176) 41 = .ok (.iload 5, 2) := by decide +kernel
theorem D176_43 : decode (byt 176) 43 = .ok (.iadd, 1) := by decide +kernel
theorem D176_44 : decode (byt 176) 44 = .ok (.iaload, 1) := by decide +kernel
theorem D176_45 : decode (byt 176) 45 = .ok (.iaload, 1) := by decide +kernel
theorem D176_46 : decode (byt 176) 46 = .ok (.ior, 1) := by decide +kernel
theorem D176_47 : decode (byt 176) 47 = .ok (.istore 4, 2) := by decide +kernel
theorem D176_49 : decode (byt 176) 49 = .ok (.iinc 5 1, 3) := by decide +kernel
theorem D176_52 : decode (byt 176) 52 = .ok (.goto (-38), 3) := by decide +kernel
theorem D176_55 : decode (byt 176) 55 = .ok (.iload 4, 2) := by decide +kernel
theorem D176_57 : decode (byt 176) 57 = .ok (.aload_n 0, 1) := by decide +kernel
theorem D176_58 : decode (byt 176) 58 = .ok (.getfield 46, 3) := by decide +kernel
theorem D176_61 : decode (byt 176) 61 = .ok (.iload_n 3, 1) := by decide +kernel
theorem D176_62 : decode (byt 176) 62 = .ok (.iaload, 1) := by decide +kernel
theorem D176_63 : decode (byt 176) 63 = .ok (.iconst 1, 1) := by decide +kernel
theorem D176_64 : decode (byt 176) 64 = .ok (.isub, 1) := by decide +kernel
theorem D176_65 : decode (byt 176) 65 = .ok (.ishr, 1) := by decide +kernel
theorem D176_66 : decode (byt 176) 66 = .ok (.iconst 1, 1) := by decide +kernel
theorem D176_67 : decode (byt 176) 67 = .ok (.iand, 1) := by decide +kernel
theorem D176_68 : decode (byt 176) 68 = .ok (.iconst 1, 1) := by decide +kernel
theorem D176_69 : decode (byt 176) 69 = .ok (.if_icmp .ne 7, 3) := by decide +kernel
theorem D176_72 : decode (byt 176) 72 = .ok (.iconst 1, 1) := by decide +kernel
theorem D176_73 : decode (byt 176) 73 = .ok (.goto 4, 3) := by decide +kernel
theorem D176_76 : decode (byt 176) 76 = .ok (.iconst 0, 1) := by decide +kernel
theorem D176_77 : decode (byt 176) 77 = .ok (.ireturn, 1) := by decide +kernel
theorem D177_0 : decode (byt 177) 0 = .ok (.iload_n 1, 1) := by decide +kernel
theorem D177_1 : decode (byt 177) 1 = .ok (.invokestatic 150, 3) := by decide +kernel
theorem D177_4 : decode (byt 177) 4 = .ok (.ifCond .ne 10, 3) := by decide +kernel
theorem D177_7 : decode (byt 177) 7 = .ok (.aload_n 0, 1) := by decide +kernel
theorem D177_8 : decode (byt 177) 8 = .ok (.bipush (-3), 2) := by decide +kernel
theorem D177_10 : decode (byt 177) 10 = .ok (.invokevirtual 154, 3) := by decide +kernel
theorem D177_13 : decode (byt 177) 13 = .ok (.ireturn, 1) := by decide +kernel
theorem D177_14 : decode (byt 177) 14 = .ok (.aload_n 0, 1) := by decide +kernel
theorem D177_15 : decode (byt 177) 15 = .ok (.getfield 34, 3) := by decide +kernel
theorem D177_18 : decode (byt 177) 18 = .ok (.iload_n 1, 1) := by decide +kernel
theorem D177_19 : decode (byt 177) 19 = .ok (.iaload, 1) := by decide +kernel
theorem D177_20 : decode (byt 177) 20 = .ok (.ifCond .ne 10, 3) := by decide +kernel
theorem D177_23 : decode (byt 177) 23 = .ok (.aload_n 0, 1) := by decide +kernel
theorem D177_24 : decode (byt 177) 24 = .ok (.bipush (-2), 2) := by decide +kernel
theorem D177_26 : decode (byt 177) 26 = .ok (.invokevirtual 154, 3) := by decide +kernel
theorem D177_29 : decode (byt 177) 29 = .ok (.ireturn, 1) := by decide +kernel
theorem D177_30 : decode (byt 177) 30 = .ok (.aload_n 0, 1) := by decide +kernel
theorem D177_31 : decode (byt 177) 31 = .ok (.iload_n 1, 1) := by decide +kernel
theorem D177_32 : decode (byt 177) 32 = .ok (.invokevirtual 269, 3) := by decide +kernel
theorem D177_35 : decode (byt 177) 35 = .ok (.aload_n 0, 1) := by decide +kernel
theorem D177_36 : decode (byt 177) 36 = .ok (.iload_n 1, 1) := by decide +kernel
theorem D177_37 : decode (byt 177) 37 = .ok (.invokevirtual 282, 3) := by decide +kernel
theorem D177_40 : decode (byt 177) 40 = .ok (.iconst 0, 1) := by decide +kernel
theorem D177_41 : decode (byt 177) 41 = .ok (.istore_n 2, 1) := by decide +kernel
theorem D177_42 : decode (byt 177) 42 = .ok (.iload_n 2, 1) := by decide +kernel
theorem D177_43 : decode (byt 177) 43 = .ok (.aload_n 0, 1) := by decide +kernel
theorem D177_44 : decode (byt 177) 44 = .ok (.getfield 34, 3) := by decide +kernel
theorem D177_47 : decode (byt 177) 47 = .ok (.iload_n 1, 1) := by decide +kernel
theorem D177_48 : decode (byt 177) 48 = .ok (.iaload, 1) := by decide +kernel
theorem D177_49 : decode (byt 177) 49 = .ok (.if_icmp .ge 41, 3) := by decide +kernel
theorem D177_52 : decode (byt 177) 52 = .ok (.aload_n 0, 1) := by decide +kernel
theorem D177_53 : decode (byt 177) 53 = .ok (.iload_n 2, 1) := by decide +kernel
theorem D177_54 : decode (byt 177) 54 = .ok (.putfield 130, 3) := by decide +kernel
theorem D177_57 : decode (byt 177) 57 = .ok (.aload_n 0, 1) := by decide +kernel
theorem D177_58 : decode (byt 177) 58 = .ok (.getfield 43, 3) := by decide +kernel
theorem D177_61 : decode (byt 177) 61 = .ok (.sipush 1500, 3) := by decide +kernel
theorem D177_64 : decode (byt 177) 64 = .ok (.iload_n 1, 1) := by decide +kernel
theorem D177_65 : decode (byt 177) 65 = .ok (.imul, 1) := by decide +kernel
theorem D177_66 : decode (byt 177) 66 = .ok (.iload_n 2, 1) := by decide +kernel
theorem D177_67 : decode (byt 177) 67 = .ok (.iadd, 1) := by decide +kernel
theorem D177_68 : decode (byt 177) 68 = .ok (.iaload, 1) := by decide +kernel
theorem D177_69 : decode (byt 177) 69 = .ok (.iconst 3, 1) := by decide +kernel
theorem D177_70 : decode (byt 177) 70 = .ok (.if_icmp .ne 14, 3) := by decide +kernel
theorem D177_73 : decode (byt 177) 73 = .ok (.aload_n 0, 1) := by decide +kernel
theorem D177_74 : decode (byt 177) 74 = .ok (.iload_n 1, 1) := by decide +kernel
theorem D177_75 : decode (byt 177) 75 = .ok (.iload_n 2, 1) := by decide +kernel
theorem D177_76 : decode (byt 177) 76 = .ok (.invokevirtual 285, 3) := by decide +kernel
theorem D177_79 : decode (byt 177) 79 = .ok (.ifCond .eq 5, 3) := by decide +kernel
theorem D177_82 : decode (byt 177) 82 = .ok (.iconst 1, 1) := by decide +kernel
theorem D177_83 : decode (byt 177) 83 = .ok (.ireturn, 1) := by decide +kernel
theorem D177_84 : decode (byt 177) 84 = .ok (.iinc 2 1, 3) := by decide +kernel
theorem D177_87 : decode (byt 177) 87 = .ok (.goto (-45), 3) := by decide +kernel
theorem D177_90 : decode (byt 177) 90 = .ok (.iconst 0, 1) := by decide +kernel
theorem D177_91 : decode (byt 177) 91 = .ok (.istore_n 2, 1) := by decide +kernel
theorem D177_92 : decode (byt 177) 92 = .ok (.iload_n 2, 1) := by decide +kernel
theorem D177_93 : decode (byt 177) 93 = .ok (.aload_n 0, 1) := by decide +kernel
theorem D177_94 : decode (byt 177) 94 = .ok (.getfield 34, 3) := by decide +kernel
theorem D177_97 : decode (byt 177) 97 = .ok (.iload_n 1, 1) := by decide +kernel
theorem D177_98 : decode (byt 177) 98 = .ok (.iaload, 1) := by decide +kernel
theorem D177_99 : decode (byt 177) 99 = .ok (.if_icmp .ge 41, 3) := by decide +kernel
theorem D177_102 : decode (byt 177) 102 = .ok (.aload_n 0, 1) := by decide +kernel
theorem D177_103 : decode (byt 177) 103 = .ok (.iload_n 2, 1) := by decide +kernel
theorem D177_104 : decode (byt 177) 104 = .ok (.putfield 130, 3) := by decide +kernel
theorem D177_107 : decode (byt 177) 107 = .ok (.aload_n 0, 1) := by decide +kernel
theorem D177_108 : decode (byt 177) 108 = .ok (.getfield 43, 3) := by decide +kernel
theorem D177_111 : decode (byt 177) 111 = .ok (.sipush 1500, 3) := by decide +kernel
theorem D177_114 : decode (byt 177) 114 = .ok (.iload_n 1, 1) := by decide +kernel
theorem D177_115 : decode (byt 177) 115 = .ok (.imul, 1) := by decide +kernel
theorem D177_116 : decode (byt 177) 116 = .ok (.iload_n 2, 1) := by decide +kernel
theorem D177_117 : decode (byt 177) 117 = .ok (.iadd, 1) := by decide +kernel
theorem D177_118 : decode (byt 177) 118 = .ok (.iaload, 1) := by decide +kernel
theorem D177_119 : decode (byt 177) 119 = .ok (.iconst 4, 1) := by decide +kernel
theorem D177_120 : decode (byt 177) 120 = .ok (.if_icmp .ne 14, 3) := by decide +kernel
theorem D177_123 : decode (byt 177) 123 = .ok (.aload_n 0, 1) := by decide +kernel
theorem D177_124 : decode (byt 177) 124 = .ok (.iload_n 1, 1) := by decide +kernel
theorem D177_125 : decode (byt 177) 125 = .ok (.iload_n 2, 1) := by decide +kernel
theorem D177_126 : decode (byt 177) 126 = .ok (.invokevirtual 288, 3) := by decide +kernel
theorem D177_129 : decode (byt 177) 129 = .ok (.ifCond .eq 5, 3) := by decide +kernel
theorem D177_132 : decode (byt 177) 132 = .ok (.iconst 2, 1) := by decide +kernel
theorem D177_133 : decode (byt 177) 133 = .ok (.ireturn, 1) := by decide +kernel
theorem D177_134 : decode (byt 177) 134 = .ok (.iinc 2 1, 3) := by decide +kernel
theorem D177_137 : decode (byt 177) 137 = .ok (.goto (-45), 3) := by decide +kernel
theorem D177_140 : decode (byt 177) 140 = .ok (.iconst 0, 1) := by decide +kernel
theorem D177_141 : decode (byt 177) 141 = .ok (.istore_n 2, 1) := by decide +kernel
theorem D177_142 : decode (byt 177) 142 = .ok (.iload_n 2, 1) := by decide +kernel
theorem D177_143 : decode (byt 177) 143 = .ok (.iconst 1, 1) := by decide +kernel
theorem D177_144 : decode (byt 177) 144 = .ok (.aload_n 0, 1) := by decide +kernel
theorem D177_145 : decode (byt 177) 145 = .ok (.getfield 7, 3) := by decide +kernel
theorem D177_148 : decode (byt 177) 148 = .ok (.iload_n 1, 1) := by decide +kernel
theorem D177_149 : decode (byt 177) 149 = .ok (.iaload, 1) := by decide +kernel
theorem D177_150 : decode (byt 177) 150 = .ok (.ishl, 1) := by decide +kernel
theorem D177_151 : decode (byt 177) 151 = .ok (.if_icmp .ge 37, 3) := by decide +kernel
theorem D177_154 : decode (byt 177) 154 = .ok (.aload_n 0, 1) := by decide +kernel
theorem D177_155 : decode (byt 177) 155 = .ok (.iload_n 2, 1) := by decide +kernel
theorem D177_156 : decode (byt 177) 156 = .ok (.putfield 130, 3) := by decide +kernel
theorem D177_159 : decode (byt 177) 159 = .ok (.aload_n 0, 1) := by decide +kernel
theorem D177_160 : decode (byt 177) 160 = .ok (.getfield 120, 3) := by decide +kernel
theorem D177_163 : decode (byt 177) 163 = .ok (.sipush 4096, 3) := by decide +kernel
theorem D177_166 : decode (byt 177) 166 = .ok (.iload_n 1, 1) := by decide +kernel
theorem D177_167 : decode (byt 177) 167 = .ok (.imul, 1) := by decide +kernel
theorem D177_168 : decode (byt 177) 168 = .ok (.iload_n 2, 1) := by decide +kernel
theorem D177_169 : decode (byt 177) 169 = .ok (.iadd, 1) := by decide +kernel
theorem D177_170 : decode (byt 177) 170 = .ok (.baload, 1) := by decide +kernel
theorem D177_171 : decode (byt 177) 171 = .ok (.aload_n 0, 1) := by decide +kernel
theorem D177_172 : decode (byt 177) 172 = .ok (.iload_n 1, 1) := by decide +kernel
theorem D177_173 : decode (byt 177) 173 = .ok (.iload_n 2, 1) := by decide +kernel
theorem D177_174 : decode (byt 177) 174 = .ok (.invokevirtual 291, 3) := by decide +kernel
theorem D177_177 : decode (byt 177) 177 = .ok (.if_icmp .eq 5, 3) := by decide +kernel
theorem D177_180 : decode (byt 177) 180 = .ok (.iconst 3, 1) := by decide +kernel
theorem D177_181 : decode (byt 177) 181 = .ok (.ireturn, 1) := by decide +kernel
theorem D177_182 : decode (byt 177) 182 = .ok (.iinc 2 1, 3) := by decide +kernel
theorem D177_185 : decode (byt 177) 185 = .ok (.goto (-43), 3) := by decide +kernel
theorem D177_188 : decode (byt 177) 188 = .ok (.aload_n 0, 1) := by decide +kernel
theorem D177_189 : decode (byt 177) 189 = .ok (.iconst (-1), 1) := by decide +kernel
theorem D177_190 : decode (byt 177) 190 = .ok (.putfield 130, 3) := by decide +kernel
theorem D177_193 : decode (byt 177) 193 = .ok (.iconst 0, 1) := by decide +kernel
theorem D177_194 : decode (byt 177) 194 = .ok (.ireturn, 1) := by decide +kernel
theorem D178_0 : decode (byt 178) 0 = .ok (.aload_n 0, 1) := by decide +kernel
theorem D178_1 : decode (byt 178) 1 = .ok (.getfield 130, 3) := by decide +kernel
theorem D178_4 : decode (byt 178) 4 = .ok (.ireturn, 1) := by decide +kernel
theorem D179_0 : decode (byt 179) 0 = .ok (.aload_n 0, 1) := by decide +kernel
theorem D179_1 : decode (byt 179) 1 = .ok (.getfield 120, 3) := by decide +kernel
theorem D179_4 : decode (byt 179) 4 = .ok (.sipush 4096, 3) := by decide +kernel
theorem D179_7 : decode (byt 179) 7 = .ok (.iload_n 1, 1) := by decide +kernel
theorem D179_8 : decode (byt 179) 8 = .ok (.imul, 1) := by decide +kernel
theorem D179_9 : decode (byt 179) 9 = .ok (.iload_n 2, 1) := by decide +kernel
theorem D179_10 : decode (byt 179) 10 = .ok (.iadd, 1) := by decide +kernel
theorem D179_11 : decode (byt 179) 11 = .ok (.baload, 1) := by decide +kernel
theorem D179_12 : decode (byt 179) 12 = .ok (.istore_n 3, 1) := by decide +kernel
theorem D179_13 : decode (byt 179) 13 = .ok (.iconst 1, 1) := by decide +kernel
theorem D179_14 : decode (byt 179) 14 = .ok (.istore 4, 2) := by decide +kernel
theorem D179_16 : decode (byt 179) 16 = .ok (.iload 4, 2) := by decide +kernel
theorem D179_18 : decode (byt 179) 18 = .ok (.aload_n 0, 1) := by decide +kernel
theorem D179_19 : decode (byt 179) 19 = .ok (.getfield 7, 3) := by decide +kernel
theorem D179_22 : decode (byt 179) 22 = .ok (.iload_n 1, 1) := by decide +kernel
theorem D179_23 : decode (byt 179) 23 = .ok (.iaload, 1) := by decide +kernel
theorem D179_24 : decode (byt 179) 24 = .ok (.if_icmp .gt 86, 3) := by decide +kernel
theorem D179_27 : decode (byt 179) 27 = .ok (.aload_n 0, 1) := by decide +kernel
theorem D179_28 : decode (byt 179) 28 = .ok (.getfield 22, 3) := by decide +kernel
theorem D179_31 : decode (byt 179) 31 = .ok (.iload_n 1, 1) := by decide +kernel
theorem D179_32 : decode (byt 179) 32 = .ok (.iaload, 1) := by decide +kernel
theorem D179_33 : decode (byt 179) 33 = .ok (.iload 4, 2) := by decide +kernel
theorem D179_35 : decode (byt 179) 35 = .ok (.iconst 1, 1) := by decide +kernel
theorem D179_36 : decode (byt 179) 36 = .ok (.isub, 1) := by decide +kernel
theorem D179_37 : decode (byt 179) 37 = .ok (.ishr, 1) := by decide +kernel
theorem D179_38 : decode (byt 179) 38 = .ok (.iconst 1, 1) := by decide +kernel
theorem D179_39 : decode (byt 179) 39 = .ok (.iand, 1) := by decide +kernel
theorem D179_40 : decode (byt 179) 40 = .ok (.iconst 1, 1) := by decide +kernel
theorem D179_41 : decode (byt 179) 41 = .ok (.if_icmp .ne 24, 3) := by decide +kernel
theorem D179_44 : decode (byt 179) 44 = .ok (.iload_n 3, 1) := by decide +kernel
theorem D179_45 : decode (byt 179) 45 = .ok (.ifCond .eq 18, 3) := by decide +kernel
theorem D179_48 : decode (byt 179) 48 = .ok (.aload_n 0, 1) := by decide +kernel
theorem D179_49 : decode (byt 179) 49 = .ok (.iload_n 1, 1) := by decide +kernel
theorem D179_50 : decode (byt 179) 50 = .ok (.iload 4, 2) := by decide +kernel
theorem D179_52 : decode (byt 179) 52 = .ok (.iload_n 2, 1) := by decide +kernel
theorem D179_53 : decode (byt 179) 53 = .ok (.invokevirtual 275, 3) := by decide +kernel
theorem D179_56 : decode (byt 179) 56 = .ok (.ifCond .eq 7, 3) := by decide +kernel
theorem D179_59 : decode (byt 179) 59 = .ok (.iconst 1, 1) := by decide +kernel
theorem D179_60 : decode (byt 179) 60 = .ok (.goto 4, 3) := by decide +kernel
theorem D179_63 : decode (byt 179) 63 = .ok (.iconst 0, 1) := by decide +kernel
theorem D179_64 : decode (byt 179) 64 = .ok (.istore_n 3, 1) := by decide +kernel
theorem D179_65 : decode (byt 179) 65 = .ok (.aload_n 0, 1) := by decide +kernel
theorem D179_66 : decode (byt 179) 66 = .ok (.getfield 25, 3) := by decide +kernel
theorem D179_69 : decode (byt 179) 69 = .ok (.iload_n 1, 1) := by decide +kernel
theorem D179_70 : decode (byt 179) 70 = .ok (.iaload, 1) := by decide +kernel
theorem D179_71 : decode (byt 179) 71 = .ok (.iload 4, 2) := by decide +kernel
theorem D179_73 : decode (byt 179) 73 = .ok (.iconst 1, 1) := by decide +kernel
theorem D179_74 : decode (byt 179) 74 = .ok (.isub, 1) := by decide +kernel
theorem D179_75 : decode (byt 179) 75 = .ok (.ishr, 1) := by decide +kernel
theorem D179_76 : decode (byt 179) 76 = .ok (.iconst 1, 1) := by decide +kernel
theorem D179_77 : decode (byt 179) 77 = .ok (.iand, 1) := by decide +kernel
theorem D179_78 : decode (byt 179) 78 = .ok (.iconst 1, 1) := by decide +kernel
theorem D179_79 : decode (byt 179) 79 = .ok (.if_icmp .ne 25, 3) := by decide +kernel
theorem D179_82 : decode (byt 179) 82 = .ok (.iload_n 3, 1) := by decide +kernel
theorem D179_83 : decode (byt 179) 83 = .ok (.ifCond .eq 19, 3) := by decide +kernel
theorem D179_86 : decode (byt 179) 86 = .ok (.aload_n 0, 1) := by decide +kernel
theorem D179_87 : decode (byt 179) 87 = .ok (.iload_n 1, 1) := by decide +kernel
theorem D179_88 : decode (byt 179) 88 = .ok (.iload 4, 2) := by decide +kernel
theorem D179_90 : decode (byt 179) 90 = .ok (.ineg, 1) := by decide +kernel
theorem D179_91 : decode (byt 179) 91 = .ok (.iload_n 2, 1) := by decide +kernel
theorem D179_92 : decode (byt 179) 92 = .ok (.invokevirtual 275, 3) := by decide +kernel
theorem D179_95 : decode (byt 179) 95 = .ok (.ifCond .eq 7, 3) := by decide +kernel
theorem D179_98 : decode (byt 179) 98 = .ok (.iconst 1, 1) := by decide +kernel
theorem D179_99 : decode (byt 179) 99 = .ok (.goto 4, 3) := by decide +kernel
theorem D179_102 : decode (byt 179) 102 = .ok (.iconst 0, 1) := by decide +kernel
theorem D179_103 : decode (byt 179) 103 = .ok (.istore_n 3, 1) := by decide +kernel
theorem D179_104 : decode (byt 179) 104 = .ok (.iinc 4 1, 3) := by decide +kernel
theorem D179_107 : decode (byt 179) 107 = .ok (.goto (-91), 3) := by decide +kernel
theorem D179_110 : decode (byt 179) 110 = .ok (.iload_n 3, 1) := by decide +kernel
theorem D179_111 : decode (byt 179) 111 = .ok (.ireturn, 1) := by decide +kernel
theorem D180_0 : decode (byt 180) 0 = .ok (.iload_n 1, 1) := by decide +kernel
theorem D180_1 : decode (byt 180) 1 = .ok (.invokestatic 150, 3) := by decide +kernel
theorem D180_4 : decode (byt 180) 4 = .ok (.ifCond .ne 6, 3) := by decide +kernel
theorem D180_7 : decode (byt 180) 7 = .ok (.bipush (-3), 2) := by decide +kernel
theorem D180_9 : decode (byt 180) 9 = .ok (.ireturn, 1) := by decide +kernel
theorem D180_10 : decode (byt 180) 10 = .ok (.aload_n 0, 1) := by decide +kernel
theorem D180_11 : decode (byt 180) 11 = .ok (.getfield 34, 3) := by decide +kernel
theorem D180_14 : decode (byt 180) 14 = .ok (.iload_n 1, 1) := by decide +kernel
theorem D180_15 : decode (byt 180) 15 = .ok (.iaload, 1) := by decide +kernel
theorem D180_16 : decode (byt 180) 16 = .ok (.ifCond .ne 6, 3) := by decide +kernel
theorem D180_19 : decode (byt 180) 19 = .ok (.bipush (-2), 2) := by decide +kernel
theorem D180_21 : decode (byt 180) 21 = .ok (.ireturn, 1) := by decide +kernel
theorem D180_22 : decode (byt 180) 22 = .ok (.aload_n 0, 1) := by decide +kernel
theorem D180_23 : decode (byt 180) 23 = .ok (.iload_n 1, 1) := by decide +kernel
theorem D180_24 : decode (byt 180) 24 = .ok (.invokevirtual 282, 3) := by decide +kernel
theorem D180_27 : decode (byt 180) 27 = .ok (.iconst 0, 1) := by decide +kernel
theorem D180_28 : decode (byt 180) 28 = .ok (.ireturn, 1) := by decide +kernel
theorem D181_0 : decode (byt 181) 0 = .ok (.iconst 0, 1) := by decide +kernel
theorem D181_1 : decode (byt 181) 1 = .ok (.istore_n 3, 1) := by decide +kernel
theorem D181_2 : decode (byt 181) 2 = .ok (.iconst 0, 1) := by decide +kernel
theorem D181_3 : decode (byt 181) 3 = .ok (.istore 4, 2) := by decide +kernel
theorem D181_5 : decode (byt 181) 5 = .ok (.iload 4, 2) := by decide +kernel
theorem D181_7 : decode (byt 181) 7 = .ok (.iload_n 2, 1) := by decide +kernel
theorem D181_8 : decode (byt 181) 8 = .ok (.if_icmp .ge 27, 3) := by decide +kernel
theorem D181_11 : decode (byt 181) 11 = .ok (.iload_n 3, 1) := by decide +kernel
theorem D181_12 : decode (byt 181) 12 = .ok (.aload_n 0, 1) := by decide +kernel
theorem D181_13 : decode (byt 181) 13 = .ok (.iload_n 1, 1) := by decide +kernel
theorem D181_14 : decode (byt 181) 14 = .ok (.iload 4, 2) := by decide +kernel
theorem D181_16 : decode (byt 181) 16 = .ok (.invokevirtual 294, 3) := by decide +kernel
theorem D181_19 : decode (byt 181) 19 = .ok (.ifCond .eq 7, 3) := by decide +kernel
theorem D181_22 : decode (byt 181) 22 = .ok (.iconst 1, 1) := by decide +kernel
theorem D181_23 : decode (byt 181) 23 = .ok (.goto 4, 3) := by decide +kernel
theorem D181_26 : decode (byt 181) 26 = .ok (.iconst 0, 1) := by decide +kernel
theorem D181_27 : decode (byt 181) 27 = .ok (.iadd, 1) := by decide +kernel
theorem D181_28 : decode (byt 181) 28 = .ok (.istore_n 3, 1) := by decide +kernel
theorem D181_29 : decode (byt 181) 29 = .ok (.iinc 4 1, 3) := by decide +kernel
theorem D181_32 : decode (byt 181) 32 = .ok (.goto (-27), 3) := by decide +kernel
theorem D181_35 : decode (byt 181) 35 = .ok (.iload_n 3, 1) := by decide +kernel
theorem D181_36 : decode (byt 181) 36 = .ok (.ireturn, 1) := by decide +kernel
theorem D182_0 : decode (byt 182) 0 = .ok (.aload_n 0, 1) := by decide +kernel
theorem D182_1 : decode (byt 182) 1 = .ok (.iload_n 1, 1) := by decide +kernel
theorem D182_2 : decode (byt 182) 2 = .ok (.invokevirtual 297, 3) := by decide +kernel
theorem D182_5 : decode (byt 182) 5 = .ok (.istore_n 2, 1) := by decide +kernel
theorem D182_6 : decode (byt 182) 6 = .ok (.iload_n 2, 1) := by decide +kernel
theorem D182_7 : decode (byt 182) 7 = .ok (.ifCond .eq 11, 3) := by decide +kernel
theorem D182_10 : decode (byt 182) 10 = .ok (.aload_n 0, 1) := by decide +kernel
theorem D182_11 : decode (byt 182) 11 = .ok (.iload_n 2, 1) := by decide +kernel
theorem D182_12 : decode (byt 182) 12 = .ok (.invokevirtual 154, 3) := by decide +kernel
theorem D182_15 : decode (byt 182) 15 = .ok (.goto 16, 3) := by decide +kernel
theorem D182_18 : decode (byt 182) 18 = .ok (.aload_n 0, 1) := by decide +kernel
theorem D182_19 : decode (byt 182) 19 = .ok (.iload_n 1, 1) := by decide +kernel
theorem D182_20 : decode (byt 182) 20 = .ok (.iconst 1, 1) := by decide +kernel
theorem D182_21 : decode (byt 182) 21 = .ok (.aload_n 0, 1) := by decide +kernel
theorem D182_22 : decode (byt 182) 22 = .ok (.getfield 7, 3) := by decide +kernel
theorem D182_25 : decode (byt 182) 25 = .ok (.iload_n 1, 1) := by decide +kernel
theorem D182_26 : decode (byt 182) 26 = .ok (.iaload, 1) := by decide +kernel
theorem D182_27 : decode (byt 182) 27 = .ok (.ishl, 1) := by decide +kernel
theorem D182_28 : decode (byt 182) 28 = .ok (.invokevirtual 300, 3) := by decide +kernel
theorem D182_31 : decode (byt 182) 31 = .ok (.ireturn, 1) := by decide +kernel
theorem D183_0 : decode (byt 183) 0 = .ok (.aload_n 0, 1) := by decide +kernel
theorem D183_1 : decode (byt 183) 1 = .ok (.iload_n 1, 1) := by decide +kernel
theorem D183_2 : decode (byt 183) 2 = .ok (.invokevirtual 297, 3) := by decide +kernel
theorem D183_5 : decode (byt 183) 5 = .ok (.istore_n 3, 1) := by decide +kernel
theorem D183_6 : decode (byt 183) 6 = .ok (.iload_n 3, 1) := by decide +kernel
theorem D183_7 : decode (byt 183) 7 = .ok (.ifCond .ne 26, 3) := by decide +kernel
theorem D183_10 : decode (byt 183) 10 = .ok (.iload_n 2, 1) := by decide +kernel
theorem D183_11 : decode (byt 183) 11 = .ok (.i2l, 1) := by decide +kernel
theorem D183_12 : decode (byt 183) 12 = .ok (.lconst 0, 1) := by decide +kernel
theorem D183_13 : decode (byt 183) 13 = .ok (.iconst 1, 1) := by decide +kernel
theorem D183_14 : decode (byt 183) 14 = .ok (.aload_n 0, 1) := by decide +kernel
theorem D183_15 : decode (byt 183) 15 = .ok (.getfield 7, 3) := by decide +kernel
theorem D183_18 : decode (byt 183) 18 = .ok (.iload_n 1, 1) := by decide +kernel
theorem D183_19 : decode (byt 183) 19 = .ok (.iaload, 1) := by decide +kernel
theorem D183_20 : decode (byt 183) 20 = .ok (.ishl, 1) := by decide +kernel
theorem D183_21 : decode (byt 183) 21 = .ok (.iconst 1, 1) := by decide +kernel
theorem D183_22 : decode (byt 183) 22 = .ok (.isub, 1) := by decide +kernel
theorem D183_23 : decode (byt 183) 23 = .ok (.i2l, 1) := by decide +kernel
theorem D183_24 : decode (byt 183) 24 = .ok (.invokestatic 146, 3) := by decide +kernel
theorem D183_27 : decode (byt 183) 27 = .ok (.ifCond .ne 6, 3) := by decide +kernel
theorem D183_30 : decode (byt 183) 30 = .ok (.bipush (-3), 2) := by decide +kernel
theorem D183_32 : decode (byt 183) 32 = .ok (.istore_n 3, 1) := by decide +kernel
theorem D183_33 : decode (byt 183) 33 = .ok (.iload_n 3, 1) := by decide +kernel
theorem D183_34 : decode (byt 183) 34 = .ok (.ifCond .eq 11, 3) := by decide +kernel
theorem D183_37 : decode (byt 183) 37 = .ok (.aload_n 0, 1) := by decide +kernel
theorem D183_38 : decode (byt 183) 38 = .ok (.iload_n 3, 1) := by decide +kernel
theorem D183_39 : decode (byt 183) 39 = .ok (.invokevirtual 154, 3) := by decide +kernel
theorem D183_42 : decode (byt 183) 42 = .ok (.goto 17, 3) := by decide +kernel
theorem D183_45 : decode (byt 183) 45 = .ok (.aload_n 0, 1) := by decide +kernel
theorem D183_46 : decode (byt 183) 46 = .ok (.iload_n 1, 1) := by decide +kernel
theorem D183_47 : decode (byt 183) 47 = .ok (.iload_n 2, 1) := by decide +kernel
theorem D183_48 : decode (byt 183) 48 = .ok (.invokevirtual 294, 3) := by decide +kernel
theorem D183_51 : decode (byt 183) 51 = .ok (.ifCond .eq 7, 3) := by decide +kernel
theorem D183_54 : decode (byt 183) 54 = .ok (.iconst 1, 1) := by decide +kernel
theorem D183_55 : decode (byt 183) 55 = .ok (.goto 4, 3) := by decide +kernel
theorem D183_58 : decode (byt 183) 58 = .ok (.iconst 0, 1) := by decide +kernel
theorem D183_59 : decode (byt 183) 59 = .ok (.ireturn, 1) := by decide +kernel
theorem D184_0 : decode (byt 184) 0 = .ok (.lconst 1, 1) := by decide +kernel
theorem D184_1 : decode (byt 184) 1 = .ok (.lstore_n 3, 1) := by decide +kernel
theorem D184_2 : decode (byt 184) 2 = .ok (.iconst 1, 1) := by decide +kernel
theorem D184_3 : decode (byt 184) 3 = .ok (.istore 5, 2) := by decide +kernel
theorem D184_5 : decode (byt 184) 5 = .ok (.iload 5, 2) := by decide +kernel
theorem D184_7 : decode (byt 184) 7 = .ok (.aload_n 0, 1) := by decide +kernel
theorem D184_8 : decode (byt 184) 8 = .ok (.getfield 7, 3) := by decide +kernel
theorem D184_11 : decode (byt 184) 11 = .ok (.iload_n 1, 1) := by decide +kernel
theorem D184_12 : decode (byt 184) 12 = .ok (.iaload, 1) := by decide +kernel
theorem D184_13 : decode (byt 184) 13 = .ok (.if_icmp .gt 41, 3) := by decide +kernel
theorem D184_16 : decode (byt 184) 16 = .ok (.lload_n 3, 1) := by decide +kernel
theorem D184_17 : decode (byt 184) 17 = .ok (.aload_n 0, 1) := by decide +kernel
theorem D184_18 : decode (byt 184) 18 = .ok (.getfield 28, 3) := by decide +kernel
theorem D184_21 : decode (byt 184) 21 = .ok (.iload_n 1, 1) := by decide +kernel
theorem D184_22 : decode (byt 184) 22 = .ok (.aload_n 0, 1) := by decide +kernel
theorem D184_23 : decode (byt 184) 23 = .ok (.iload_n 1, 1) := by decide +kernel
theorem D184_24 : decode (byt 184) 24 = .ok (.iload 5, 2) := by decide +kernel
theorem D184_26 : decode (byt 184) 26 = .ok (.iload_n 2, 1) := by decide +kernel
theorem D184_27 : decode (byt 184) 27 = .ok (.invokevirtual 275, 3) := by decide +kernel
theorem D184_30 : decode (byt 184) 30 = .ok (.ifCond .eq 8, 3) := by decide +kernel
theorem D184_33 : decode (byt 184) 33 = .ok (.iload 5, 2) := by decide +kernel
theorem D184_35 : decode (byt 184) 35 = .ok (.goto 6, 3) := by decide +kernel
theorem D184_38 : decode (byt 184) 38 = .ok (.iload 5, 2) := by decide +kernel
theorem D184_40 : decode (byt 184) 40 = .ok (.ineg, 1) := by decide +kernel
theorem D184_41 : decode (byt 184) 41 = .ok (.invokestatic 188, 3) := by decide +kernel
theorem D184_44 : decode (byt 184) 44 = .ok (.iaload, 1) := by decide +kernel
theorem D184_45 : decode (byt 184) 45 = .ok (.i2l, 1) := by decide +kernel
theorem D184_46 : decode (byt 184) 46 = .ok (.lmul, 1) := by decide +kernel
theorem D184_47 : decode (byt 184) 47 = .ok (.lstore_n 3, 1) := by decide +kernel
theorem D184_48 : decode (byt 184) 48 = .ok (.iinc 5 1, 3) := by decide +kernel
theorem D184_51 : decode (byt 184) 51 = .ok (.goto (-46), 3) := by decide +kernel
theorem D184_54 : decode (byt 184) 54 = .ok (.lload_n 3, 1) := by decide +kernel
theorem D184_55 : decode (byt 184) 55 = .ok (.lreturn, 1) := by decide +kernel
theorem D185_0 : decode (byt 185) 0 = .ok (.lconst 0, 1) := by decide +kernel
theorem D185_1 : decode (byt 185) 1 = .ok (.lstore_n 3, 1) := by decide +kernel
theorem D185_2 : decode (byt 185) 2 = .ok (.iconst 0, 1) := by decide +kernel
theorem D185_3 : decode (byt 185) 3 = .ok (.istore 5, 2) := by decide +kernel
theorem D185_5 : decode (byt 185) 5 = .ok (.iload 5, 2) := by decide +kernel
theorem D185_7 : decode (byt 185) 7 = .ok (.iconst 1, 1) := by decide +kernel
theorem D185_8 : decode (byt 185) 8 = .ok (.aload_n 0, 1) := by decide +kernel
theorem D185_9 : decode (byt 185) 9 = .ok (.getfield 7, 3) := by decide +kernel
theorem D185_12 : decode (byt 185) 12 = .ok (.iload_n 1, 1) := by decide +kernel
theorem D185_13 : decode (byt 185) 13 = .ok (.iaload, 1) := by decide +kernel
theorem D185_14 : decode (byt 185) 14 = .ok (.ishl, 1) := by decide +kernel
theorem D185_15 : decode (byt 185) 15 = .ok (.if_icmp .ge 44, 3) := by decide +kernel
theorem D185_18 : decode (byt 185) 18 = .ok (.aload_n 0, 1) := by decide +kernel
theorem D185_19 : decode (byt 185) 19 = .ok (.iload_n 1, 1) := by decide +kernel
theorem D185_20 : decode (byt 185) 20 = .ok (.iload 5, 2) := by decide +kernel
theorem D185_22 : decode (byt 185) 22 = .ok (.invokevirtual 294, 3) := by decide +kernel
theorem D185_25 : decode (byt 185) 25 = .ok (.ifCond .eq 28, 3) := by decide +kernel
theorem D185_28 : decode (byt 185) 28 = .ok (.iload_n 2, 1) := by decide +kernel
theorem D185_29 : decode (byt 185) 29 = .ok (.ifCond .eq 14, 3) := by decide +kernel
theorem D185_32 : decode (byt 185) 32 = .ok (.aload_n 0, 1) := by decide +kernel
theorem D185_33 : decode (byt 185) 33 = .ok (.iload_n 1, 1) := by decide +kernel
theorem D185_34 : decode (byt 185) 34 = .ok (.iload_n 2, 1) := by decide +kernel
theorem D185_35 : decode (byt 185) 35 = .ok (.iload 5, 2) := by decide +kernel
theorem D185_37 : decode (byt 185) 37 = .ok (.invokevirtual 275, 3) := by decide +kernel
theorem D185_40 : decode (byt 185) 40 = .ok (.ifCond .eq 13, 3) := by decide +kernel
theorem D185_43 : decode (byt 185) 43 = .ok (.lload_n 3, 1) := by decide +kernel
theorem D185_44 : decode (byt 185) 44 = .ok (.aload_n 0, 1) := by decide +kernel
theorem D185_45 : decode (byt 185) 45 = .ok (.iload_n 1, 1) := by decide +kernel
theorem D185_46 : decode (byt 185) 46 = .ok (.iload 5, 2) := by decide +kernel
theorem D185_48 : decode (byt 185) 48 = .ok (.invokevirtual 303, 3) := by decide +kernel
theorem D185_51 : decode (byt 185) 51 = .ok (.ladd, 1) := by decide +kernel
theorem D185_52 : decode (byt 185) 52 = .ok (.lstore_n 3, 1) := by decide +kernel
theorem D185_53 : decode (byt 185) 53 = .ok (.iinc 5 1, 3) := by decide +kernel
theorem D185_56 : decode (byt 185) 56 = .ok (.goto (-51), 3) := by decide +kernel
theorem D185_59 : decode (byt 185) 59 = .ok (.lload_n 3, 1) := by decide +kernel
theorem D185_60 : decode (byt 185) 60 = .ok (.lreturn, 1) := by decide +kernel
theorem D186_0 : decode (byt 186) 0 = .ok (.aload_n 0, 1) := by decide +kernel
theorem D186_1 : decode (byt 186) 1 = .ok (.iload_n 1, 1) := by decide +kernel
theorem D186_2 : decode (byt 186) 2 = .ok (.invokevirtual 297, 3) := by decide +kernel
theorem D186_5 : decode (byt 186) 5 = .ok (.istore_n 2, 1) := by decide +kernel
theorem D186_6 : decode (byt 186) 6 = .ok (.iload_n 2, 1) := by decide +kernel
theorem D186_7 : decode (byt 186) 7 = .ok (.ifCond .ne 10, 3) := by decide +kernel
theorem D186_10 : decode (byt 186) 10 = .ok (.aload_n 0, 1) := by decide +kernel
theorem D186_11 : decode (byt 186) 11 = .ok (.iload_n 1, 1) := by decide +kernel
theorem D186_12 : decode (byt 186) 12 = .ok (.iconst 0, 1) := by decide +kernel
theorem D186_13 : decode (byt 186) 13 = .ok (.invokevirtual 307, 3) := by decide +kernel
theorem D186_16 : decode (byt 186) 16 = .ok (.lreturn, 1) := by decide +kernel
theorem D186_17 : decode (byt 186) 17 = .ok (.aload_n 0, 1) := by decide +kernel
theorem D186_18 : decode (byt 186) 18 = .ok (.iload_n 2, 1) := by decide +kernel
theorem D186_19 : decode (byt 186) 19 = .ok (.invokevirtual 154, 3) := by decide +kernel
theorem D186_22 : decode (byt 186) 22 = .ok (.istore_n 3, 1) := by decide +kernel
theorem D186_23 : decode (byt 186) 23 = .ok (.lconst 0, 1) := by decide +kernel
theorem D186_24 : decode (byt 186) 24 = .ok (.lreturn, 1) := by decide +kernel
theorem D187_0 : decode (byt 187) 0 = .ok (.iload_n 1, 1) := by decide +kernel
theorem D187_1 : decode (byt 187) 1 = .ok (.invokestatic 150, 3) := by decide +kernel
theorem D187_4 : decode (byt 187) 4 = .ok (.ifCond .eq 12, 3) := by decide +kernel
theorem D187_7 : decode (byt 187) 7 = .ok (.aload_n 0, 1) := by decide +kernel
theorem D187_8 : decode (byt 187) 8 = .ok (.iload_n 1, 1) := by decide +kernel
theorem D187_9 : decode (byt 187) 9 = .ok (.iload_n 2, 1) := by decide +kernel
theorem D187_10 : decode (byt 187) 10 = .ok (.invokevirtual 163, 3) := by decide +kernel
theorem D187_13 : decode (byt 187) 13 = .ok (.ifCond .ne 8, 3) := by decide +kernel
theorem D187_16 : decode (byt 187) 16 = .ok (.bipush (-3), 2) := by decide +kernel
theorem D187_18 : decode (byt 187) 18 = .ok (.goto 8, 3) := by decide +kernel
theorem D187_21 : decode (byt 187) 21 = .ok (.aload_n 0, 1) := by decide +kernel
theorem D187_22 : decode (byt 187) 22 = .ok (.iload_n 1, 1) := by decide +kernel
theorem D187_23 : decode (byt 187) 23 = .ok (.invokevirtual 297, 3) := by decide +kernel
theorem D187_26 : decode (byt 187) 26 = .ok (.istore 4, 2) := by decide +kernel
theorem D187_28 : decode (byt 187) 28 = .ok (.iload 4, 2) := by decide +kernel
theorem D187_30 : decode (byt 187) 30 = .ok (.ifCond .ne 12, 3) := by decide +kernel
theorem D187_33 : decode (byt 187) 33 = .ok (.aload_n 0, 1) := by decide +kernel
theorem D187_34 : decode (byt 187) 34 = .ok (.iload_n 1, 1) := by decide +kernel
theorem D187_35 : decode (byt 187) 35 = .ok (.iconst 0, 1) := by decide +kernel
theorem D187_36 : decode (byt 187) 36 = .ok (.invokevirtual 307, 3) := by decide +kernel
theorem D187_39 : decode (byt 187) 39 = .ok (.goto 4, 3) := by decide +kernel
theorem D187_42 : decode (byt 187) 42 = .ok (.lconst 1, 1) := by decide +kernel
theorem D187_43 : decode (byt 187) 43 = .ok (.lstore 5, 2) := by decide +kernel
theorem D187_45 : decode (byt 187) 45 = .ok (.lload 5, 2) := by decide +kernel
theorem D187_47 : decode (byt 187) 47 = .ok (.lconst 0, 1) := by decide +kernel
theorem D187_48 : decode (byt 187) 48 = .ok (.lcmp, 1) := by decide +kernel
theorem D187_49 : decode (byt 187) 49 = .ok (.ifCond .ne 7, 3) := by decide +kernel
theorem D187_52 : decode (byt 187) 52 = .ok (.bipush (-7), 2) := by decide +kernel
theorem D187_54 : decode (byt 187) 54 = .ok (.istore 4, 2) := by decide +kernel
theorem D187_56 : decode (byt 187) 56 = .ok (.iload 4, 2) := by decide +kernel
theorem D187_58 : decode (byt 187) 58 = .ok (.ifCond .eq 13, 3) := by decide +kernel
theorem D187_61 : decode (byt 187) 61 = .ok (.aload_n 0, 1) := by decide +kernel
theorem D187_62 : decode (byt 187) 62 = .ok (.iload 4, 2) := by decide +kernel
theorem D187_64 : decode (byt 187) 64 = .ok (.invokevirtual 154, 3) := by decide +kernel
theorem D187_67 : decode (byt 187) 67 = .ok (.istore 7, 2) := by decide +kernel
theorem D187_69 : decode (byt 187) 69 = .ok (.lconst 0, 1) := by decide +kernel
theorem D187_70 : decode (byt 187) 70 = .ok (.lreturn, 1) := by decide +kernel
theorem D187_71 : decode (byt 187) 71 = .ok (.aload_n 0, 1) := by decide +kernel
theorem D187_72 : decode (byt 187) 72 = .ok (.iload_n 1, 1) := by decide +kernel
theorem D187_73 : decode (byt 187) 73 = .ok (.iload_n 2, 1) := by decide +kernel
theorem D187_74 : decode (byt 187) 74 = .ok (.invokevirtual 307, 3) := by decide +kernel
theorem D187_77 : decode (byt 187) 77 = .ok (.lstore 7, 2) := by decide +kernel
theorem D187_79 : decode (byt 187) 79 = .ok (.lload 5, 2) := by decide +kernel
theorem D187_81 : decode (byt 187) 81 = .ok (.lstore 9, 2) := by decide +kernel
theorem D187_83 : decode (byt 187) 83 = .ok (.lload 7, 2) := by decide +kernel
theorem D187_85 : decode (byt 187) 85 = .ok (.lstore 11, 2) := by decide +kernel
theorem D187_87 : decode (byt 187) 87 = .ok (.lload 11, 2) := by decide +kernel
theorem D187_89 : decode (byt 187) 89 = .ok (.lconst 0, 1) := by decide +kernel
theorem D187_90 : decode (byt 187) 90 = .ok (.lcmp, 1) := by decide +kernel
theorem D187_91 : decode (byt 187) 91 = .ok (.ifCond .eq 21, 3) := by decide +kernel
theorem D187_94 : decode (byt 187) 94 = .ok (.lload 9, 2) := by decide +kernel
theorem D187_96 : decode (byt 187) 96 = .ok (.lload 11, 2) := by decide +kernel
theorem D187_98 : decode (byt 187) 98 = .ok (.lrem, 1) := by decide +kernel
theorem D187_99 : decode (byt 187) 99 = .ok (.lstore 13, 2) := by decide +kernel
theorem D187_101 : decode (byt 187) 101 = .ok (.lload 11, 2) := by decide +kernel
theorem D187_103 : decode (byt 187) 103 = .ok (.lstore 9, 2) := by decide +kernel
theorem D187_105 : decode (byt 187) 105 = .ok (.lload 13, 2) := by decide +kernel
theorem D187_107 : decode (byt 187) 107 = .ok (.lstore 11, 2) := by decide +kernel
theorem D187_109 : decode (byt 187) 109 = .ok (.goto (-22), 3) := by decide +kernel
theorem D187_112 : decode (byt 187) 112 = .ok (.iload_n 3, 1) := by decide +kernel
theorem D187_113 : decode (byt 187) 113 = .ok (.ifCond .eq 11, 3) := by decide +kernel
theorem D187_116 : decode (byt 187) 116 = .ok (.lload 5, 2) := by decide +kernel
theorem D187_118 : decode (byt 187) 118 = .ok (.lload 9, 2) := by decide +kernel
theorem D187_120 : decode (byt 187) 120 = .ok (.ldiv, 1) := by decide +kernel
theorem D187_121 : decode (byt 187) 121 = .ok (.goto 8, 3) := by decide +kernel
theorem D187_124 : decode (byt 187) 124 = .ok (.lload 7, 2) := by decide +kernel
theorem D187_126 : decode (byt 187) 126 = .ok (.lload 9, 2) := by decide +kernel
theorem D187_128 : decode (byt 187) 128 = .ok (.ldiv, 1) := by decide +kernel
theorem D187_129 : decode (byt 187) 129 = .ok (.lreturn, 1) := by decide +kernel
theorem D188_0 : decode (byt 188) 0 = .ok (.iload_n 1, 1) := by decide +kernel
theorem D188_1 : decode (byt 188) 1 = .ok (.invokestatic 150, 3) := by decide +kernel
theorem D188_4 : decode (byt 188) 4 = .ok (.ifCond .eq 12, 3) := by decide +kernel
theorem D188_7 : decode (byt 188) 7 = .ok (.aload_n 0, 1) := by decide +kernel
theorem D188_8 : decode (byt 188) 8 = .ok (.iload_n 1, 1) := by decide +kernel
theorem D188_9 : decode (byt 188) 9 = .ok (.iload_n 2, 1) := by decide +kernel
theorem D188_10 : decode (byt 188) 10 = .ok (.invokevirtual 163, 3) := by decide +kernel
theorem D188_13 : decode (byt 188) 13 = .ok (.ifCond .ne 8, 3) := by decide +kernel
theorem D188_16 : decode (byt 188) 16 = .ok (.bipush (-3), 2) := by decide +kernel
theorem D188_18 : decode (byt 188) 18 = .ok (.goto 8, 3) := by decide +kernel
theorem D188_21 : decode (byt 188) 21 = .ok (.aload_n 0, 1) := by decide +kernel
theorem D188_22 : decode (byt 188) 22 = .ok (.iload_n 1, 1) := by decide +kernel
theorem D188_23 : decode (byt 188) 23 = .ok (.invokevirtual 297, 3) := by decide +kernel
theorem D188_26 : decode (byt 188) 26 = .ok (.istore_n 3, 1) := by decide +kernel
theorem D188_27 : decode (byt 188) 27 = .ok (.iload_n 3, 1) := by decide +kernel
theorem D188_28 : decode (byt 188) 28 = .ok (.ifCond .eq 9, 3) := by decide +kernel
theorem D188_31 : decode (byt 188) 31 = .ok (.aload_n 0, 1) := by decide +kernel
theorem D188_32 : decode (byt 188) 32 = .ok (.iload_n 3, 1) := by decide +kernel
theorem D188_33 : decode (byt 188) 33 = .ok (.invokevirtual 154, 3) := by decide +kernel
theorem D188_36 : decode (byt 188) 36 = .ok (.ireturn, 1) := by decide +kernel
theorem D188_37 : decode (byt 188) 37 = .ok (.iconst 0, 1) := by decide +kernel
theorem D188_38 : decode (byt 188) 38 = .ok (.istore 4, 2) := by decide +kernel
theorem D188_40 : decode (byt 188) 40 = .ok (.iconst 0, 1) := by decide +kernel
theorem D188_41 : decode (byt 188) 41 = .ok (.istore 5, 2) := by decide +kernel
theorem D188_43 : decode (byt 188) 43 = .ok (.iconst 0, 1) := by decide +kernel
theorem D188_44 : decode (byt 188) 44 = .ok (.istore 6, 2) := by decide +kernel
theorem D188_46 : decode (byt 188) 46 = .ok (.iload 6, 2) := by decide +kernel
theorem D188_48 : decode (byt 188) 48 = .ok (.iconst 1, 1) := by decide +kernel
theorem D188_49 : decode (byt 188) 49 = .ok (.aload_n 0, 1) := by decide +kernel
theorem D188_50 : decode (byt 188) 50 = .ok (.getfield 7, 3) := by decide +kernel
theorem D188_53 : decode (byt 188) 53 = .ok (.iload_n 1, 1) := by decide +kernel
theorem D188_54 : decode (byt 188) 54 = .ok (.iaload, 1) := by decide +kernel
theorem D188_55 : decode (byt 188) 55 = .ok (.ishl, 1) := by decide +kernel
theorem D188_56 : decode (byt 188) 56 = .ok (.if_icmp .ge 46, 3) := by decide +kernel
theorem D188_59 : decode (byt 188) 59 = .ok (.aload_n 0, 1) := by decide +kernel
theorem D188_60 : decode (byt 188) 60 = .ok (.iload_n 1, 1) := by decide +kernel
theorem D188_61 : decode (byt 188) 61 = .ok (.iload 6, 2) := by decide +kernel
theorem D188_63 : decode (byt 188) 63 = .ok (.invokevirtual 294, 3) := by decide +kernel
theorem D188_66 : decode (byt 188) 66 = .ok (.ifCond .ne 6, 3) := by decide +kernel
theorem D188_69 : decode (byt 188) 69 = .ok (.goto 27, 3) := by decide +kernel
theorem D188_72 : decode (byt 188) 72 = .ok (.iinc 5 1, 3) := by decide +kernel
theorem D188_75 : decode (byt 188) 75 = .ok (.iload 4, 2) := by decide +kernel
theorem D188_77 : decode (byt 188) 77 = .ok (.aload_n 0, 1) := by decide +kernel
theorem D188_78 : decode (byt 188) 78 = .ok (.iload_n 1, 1) := by decide +kernel
theorem D188_79 : decode (byt 188) 79 = .ok (.iload_n 2, 1) := by decide +kernel
theorem D188_80 : decode (byt 188) 80 = .ok (.iload 6, 2) := by decide +kernel
theorem D188_82 : decode (byt 188) 82 = .ok (.invokevirtual 275, 3) := by decide +kernel
theorem D188_85 : decode (byt 188) 85 = .ok (.ifCond .eq 7, 3) := by decide +kernel
theorem D188_88 : decode (byt 188) 88 = .ok (.iconst 1, 1) := by decide +kernel
theorem D188_89 : decode (byt 188) 89 = .ok (.goto 4, 3) := by decide +kernel
theorem D188_92 : decode (byt 188) 92 = .ok (.iconst 0, 1) := by decide +kernel
theorem D188_93 : decode (byt 188) 93 = .ok (.iadd, 1) := by decide +kernel
theorem D188_94 : decode (byt 188) 94 = .ok (.istore 4, 2) := by decide +kernel
theorem D188_96 : decode (byt 188) 96 = .ok (.iinc 6 1, 3) := by decide +kernel
theorem D188_99 : decode (byt 188) 99 = .ok (.goto (-53), 3) := by decide +kernel
theorem D188_102 : decode (byt 188) 102 = .ok (.iload 5, 2) := by decide +kernel
theorem D188_104 : decode (byt 188) 104 = .ok (.ifCond .ne 7, 3) := by decide +kernel
theorem D188_107 : decode (byt 188) 107 = .ok (.iconst 3, 1) := by decide +kernel
theorem D188_108 : decode (byt 188) 108 = .ok (.goto 24, 3) := by decide +kernel
theorem D188_111 : decode (byt 188) 111 = .ok (.iload 4, 2) := by decide +kernel
theorem D188_113 : decode (byt 188) 113 = .ok (.iload 5, 2) := by decide +kernel
theorem D188_115 : decode (byt 188) 115 = .ok (.if_icmp .ne 7, 3) := by decide +kernel
theorem D188_118 : decode (byt 188) 118 = .ok (.iconst 1, 1) := by decide +kernel
theorem D188_119 : decode (byt 188) 119 = .ok (.goto 13, 3) := by decide +kernel
theorem D188_122 : decode (byt 188) 122 = .ok (.iload 4, 2) := by decide +kernel
theorem D188_124 : decode (byt 188) 124 = .ok (.ifCond .ne 7, 3) := by decide +kernel
theorem D188_127 : decode (byt 188) 127 = .ok (.iconst 2, 1) := by decide +kernel
theorem D188_128 : decode (byt 188) 128 = .ok (.goto 4, 3) := by decide +kernel
theorem D188_131 : decode (byt 188) 131 = .ok (.iconst 0, 1) := by decide +kernel
theorem D188_132 : decode (byt 188) 132 = .ok (.ireturn, 1) := by decide +kernel
theorem D189_0 : decode (byt 189) 0 = .ok (.aload_n 0, 1) := by decide +kernel
theorem D189_1 : decode (byt 189) 1 = .ok (.iload_n 1, 1) := by decide +kernel
theorem D189_2 : decode (byt 189) 2 = .ok (.invokevirtual 297, 3) := by decide +kernel
theorem D189_5 : decode (byt 189) 5 = .ok (.istore_n 3, 1) := by decide +kernel
theorem D189_6 : decode (byt 189) 6 = .ok (.iload_n 3, 1) := by decide +kernel
theorem D189_7 : decode (byt 189) 7 = .ok (.ifCond .ne 10, 3) := by decide +kernel
theorem D189_10 : decode (byt 189) 10 = .ok (.iload_n 2, 1) := by decide +kernel
theorem D189_11 : decode (byt 189) 11 = .ok (.ifCond .ge 6, 3) := by decide +kernel
theorem D189_14 : decode (byt 189) 14 = .ok (.bipush (-4), 2) := by decide +kernel
theorem D189_16 : decode (byt 189) 16 = .ok (.istore_n 3, 1) := by decide +kernel
theorem D189_17 : decode (byt 189) 17 = .ok (.iload_n 3, 1) := by decide +kernel
theorem D189_18 : decode (byt 189) 18 = .ok (.ifCond .eq 9, 3) := by decide +kernel
theorem D189_21 : decode (byt 189) 21 = .ok (.aload_n 0, 1) := by decide +kernel
theorem D189_22 : decode (byt 189) 22 = .ok (.iload_n 3, 1) := by decide +kernel
theorem D189_23 : decode (byt 189) 23 = .ok (.invokevirtual 154, 3) := by decide +kernel
theorem D189_26 : decode (byt 189) 26 = .ok (.ireturn, 1) := by decide +kernel
theorem D189_27 : decode (byt 189) 27 = .ok (.iload_n 2, 1) := by decide +kernel
theorem D189_28 : decode (byt 189) 28 = .ok (.istore 4, 2) := by decide +kernel
theorem D189_30 : decode (byt 189) 30 = .ok (.iconst 0, 1) := by decide +kernel
theorem D189_31 : decode (byt 189) 31 = .ok (.istore 5, 2) := by decide +kernel
theorem D189_33 : decode (byt 189) 33 = .ok (.iload 5, 2) := by decide +kernel
theorem D189_35 : decode (byt 189) 35 = .ok (.iconst 1, 1) := by decide +kernel
theorem D189_36 : decode (byt 189) 36 = .ok (.aload_n 0, 1) := by decide +kernel
theorem D189_37 : decode (byt 189) 37 = .ok (.getfield 7, 3) := by decide +kernel
theorem D189_40 : decode (byt 189) 40 = .ok (.iload_n 1, 1) := by decide +kernel
theorem D189_41 : decode (byt 189) 41 = .ok (.iaload, 1) := by decide +kernel
theorem D189_42 : decode (byt 189) 42 = .ok (.ishl, 1) := by decide +kernel
theorem D189_43 : decode (byt 189) 43 = .ok (.if_icmp .ge 33, 3) := by decide +kernel
theorem D189_46 : decode (byt 189) 46 = .ok (.aload_n 0, 1) := by decide +kernel
theorem D189_47 : decode (byt 189) 47 = .ok (.iload_n 1, 1) := by decide +kernel
theorem D189_48 : decode (byt 189) 48 = .ok (.iload 5, 2) := by decide +kernel
theorem D189_50 : decode (byt 189) 50 = .ok (.invokevirtual 294, 3) := by decide +kernel
theorem D189_53 : decode (byt 189) 53 = .ok (.ifCond .ne 6, 3) := by decide +kernel
theorem D189_56 : decode (byt 189) 56 = .ok (.goto 14, 3) := by decide +kernel
theorem D189_59 : decode (byt 189) 59 = .ok (.iload 4, 2) := by decide +kernel
theorem D189_61 : decode (byt 189) 61 = .ok (.ifCond .ne 6, 3) := by decide +kernel
theorem D189_64 : decode (byt 189) 64 = .ok (.iload 5, 2) := by decide +kernel
theorem D189_66 : decode (byt 189) 66 = .ok (.ireturn, 1) := by decide +kernel
theorem D189_67 : decode (byt 189) 67 = .ok (.iinc 4 (-1), 3) := by decide +kernel
theorem D189_70 : decode (byt 189) 70 = .ok (.iinc 5 1, 3) := by decide +kernel
theorem D189_73 : decode (byt 189) 73 = .ok (.goto (-40), 3) := by decide +kernel
theorem D189_76 : decode (byt 189) 76 = .ok (.aload_n 0, 1) := by decide +kernel
theorem D189_77 : decode (byt 189) 77 = .ok (.bipush (-7), 2) := by decide +kernel
theorem D189_79 : decode (byt 189) 79 = .ok (.invokevirtual 154, 3) := by decide +kernel
theorem D189_82 : decode (byt 189) 82 = .ok (.ireturn, 1) := by decide +kernel
theorem D190_0 : decode (byt 190) 0 = .ok (.aload_n 0, 1) := by decide +kernel
theorem D190_1 : decode (byt 190) 1 = .ok (.iload_n 1, 1) := by decide +kernel
theorem D190_2 : decode (byt 190) 2 = .ok (.invokevirtual 297, 3) := by decide +kernel
theorem D190_5 : decode (byt 190) 5 = .ok (.istore_n 3, 1) := by decide +kernel
theorem D190_6 : decode (byt 190) 6 = .ok (.iload_n 3, 1) := by decide +kernel
theorem D190_7 : decode (byt 190) 7 = .ok (.ifCond .ne 24, 3) := by decide +kernel
theorem D190_10 : decode (byt 190) 10 = .ok (.iload_n 2, 1) := by decide +kernel
theorem D190_11 : decode (byt 190) 11 = .ok (.i2l, 1) := by decide +kernel
theorem D190_12 : decode (byt 190) 12 = .ok (.lconst 0, 1) := by decide +kernel
theorem D190_13 : decode (byt 190) 13 = .ok (.iconst 1, 1) := by decide +kernel
theorem D190_14 : decode (byt 190) 14 = .ok (.aload_n 0, 1) := by decide +kernel
theorem D190_15 : decode (byt 190) 15 = .ok (.getfield 7, 3) := by decide +kernel
theorem D190_18 : decode (byt 190) 18 = .ok (.iload_n 1, 1) := by decide +kernel
theorem D190_19 : decode (byt 190) 19 = .ok (.iaload, 1) := by decide +kernel
theorem D190_20 : decode (byt 190) 20 = .ok (.ishl, 1) := by decide +kernel
theorem D190_21 : decode (byt 190) 21 = .ok (.i2l, 1) := by decide +kernel
theorem D190_22 : decode (byt 190) 22 = .ok (.invokestatic 146, 3) := by decide +kernel
theorem D190_25 : decode (byt 190) 25 = .ok (.ifCond .ne 6, 3) := by decide +kernel
theorem D190_28 : decode (byt 190) 28 = .ok (.bipush (-3), 2) := by decide +kernel
theorem D190_30 : decode (byt 190) 30 = .ok (.istore_n 3, 1) := by decide +kernel
theorem D190_31 : decode (byt 190) 31 = .ok (.iload_n 3, 1) := by decide +kernel
theorem D190_32 : decode (byt 190) 32 = .ok (.ifCond .eq 11, 3) := by decide +kernel
theorem D190_35 : decode (byt 190) 35 = .ok (.aload_n 0, 1) := by decide +kernel
theorem D190_36 : decode (byt 190) 36 = .ok (.iload_n 3, 1) := by decide +kernel
theorem D190_37 : decode (byt 190) 37 = .ok (.invokevirtual 154, 3) := by decide +kernel
theorem D190_40 : decode (byt 190) 40 = .ok (.goto 9, 3) := by decide +kernel
theorem D190_43 : decode (byt 190) 43 = .ok (.aload_n 0, 1) := by decide +kernel
theorem D190_44 : decode (byt 190) 44 = .ok (.iload_n 1, 1) := by decide +kernel
theorem D190_45 : decode (byt 190) 45 = .ok (.iload_n 2, 1) := by decide +kernel
theorem D190_46 : decode (byt 190) 46 = .ok (.invokevirtual 300, 3) := by decide +kernel
theorem D190_49 : decode (byt 190) 49 = .ok (.ireturn, 1) := by decide +kernel
theorem D191_0 : decode (byt 191) 0 = .ok (.aload_n 0, 1) := by decide +kernel
theorem D191_1 : decode (byt 191) 1 = .ok (.iload_n 1, 1) := by decide +kernel
theorem D191_2 : decode (byt 191) 2 = .ok (.invokevirtual 297, 3) := by decide +kernel
theorem D191_5 : decode (byt 191) 5 = .ok (.istore_n 3, 1) := by decide +kernel
theorem D191_6 : decode (byt 191) 6 = .ok (.iload_n 3, 1) := by decide +kernel
theorem D191_7 : decode (byt 191) 7 = .ok (.ifCond .ne 28, 3) := by decide +kernel
theorem D191_10 : decode (byt 191) 10 = .ok (.iload_n 2, 1) := by decide +kernel
theorem D191_11 : decode (byt 191) 11 = .ok (.i2l, 1) := by decide +kernel
theorem D191_12 : decode (byt 191) 12 = .ok (.ldc2_w 310, 3) := by decide +kernel
theorem D191_15 : decode (byt 191) 15 = .ok (.iconst 1, 1) := by decide +kernel
theorem D191_16 : decode (byt 191) 16 = .ok (.aload_n 0, 1) := by decide +kernel
theorem D191_17 : decode (byt 191) 17 = .ok (.getfield 7, 3) := by decide +kernel
theorem D191_20 : decode (byt 191) 20 = .ok (.iload_n 1, 1) := by decide +kernel
theorem D191_21 : decode (byt 191) 21 = .ok (.iaload, 1) := by decide +kernel
theorem D191_22 : decode (byt 191) 22 = .ok (.ishl, 1) := by decide +kernel
theorem D191_23 : decode (byt 191) 23 = .ok (.iconst 1, 1) := by decide +kernel
theorem D191_24 : decode (byt 191) 24 = .ok (.isub, 1) := by decide +kernel
theorem D191_25 : decode (byt 191) 25 = .ok (.i2l, 1) := by decide +kernel
theorem D191_26 : decode (byt 191) 26 = .ok (.invokestatic 146, 3) := by decide +kernel
theorem D191_29 : decode (byt 191) 29 = .ok (.ifCond .ne 6, 3) := by decide +kernel
theorem D191_32 : decode (byt 191) 32 = .ok (.bipush (-3), 2) := by decide +kernel
theorem D191_34 : decode (byt 191) 34 = .ok (.istore_n 3, 1) := by decide +kernel
theorem D191_35 : decode (byt 191) 35 = .ok (.iload_n 3, 1) := by decide +kernel
theorem D191_36 : decode (byt 191) 36 = .ok (.ifCond .eq 9, 3) := by decide +kernel
theorem D191_39 : decode (byt 191) 39 = .ok (.aload_n 0, 1) := by decide +kernel
theorem D191_40 : decode (byt 191) 40 = .ok (.iload_n 3, 1) := by decide +kernel
theorem D191_41 : decode (byt 191) 41 = .ok (.invokevirtual 154, 3) := by decide +kernel
theorem D191_44 : decode (byt 191) 44 = .ok (.ireturn, 1) := by decide +kernel
theorem D191_45 : decode (byt 191) 45 = .ok (.iload_n 2, 1) := by decide +kernel
theorem D191_46 : decode (byt 191) 46 = .ok (.iconst 1, 1) := by decide +kernel
theorem D191_47 : decode (byt 191) 47 = .ok (.iadd, 1) := by decide +kernel
theorem D191_48 : decode (byt 191) 48 = .ok (.istore 4, 2) := by decide +kernel
theorem D191_50 : decode (byt 191) 50 = .ok (.iload 4, 2) := by decide +kernel
theorem D191_52 : decode (byt 191) 52 = .ok (.iconst 1, 1) := by decide +kernel
theorem D191_53 : decode (byt 191) 53 = .ok (.aload_n 0, 1) := by decide +kernel
theorem D191_54 : decode (byt 191) 54 = .ok (.getfield 7, 3) := by decide +kernel
theorem D191_57 : decode (byt 191) 57 = .ok (.iload_n 1, 1) := by decide +kernel
theorem D191_58 : decode (byt 191) 58 = .ok (.iaload, 1) := by decide +kernel
theorem D191_59 : decode (byt 191) 59 = .ok (.ishl, 1) := by decide +kernel
theorem D191_60 : decode (byt 191) 60 = .ok (.if_icmp .ge 22, 3) := by decide +kernel
theorem D191_63 : decode (byt 191) 63 = .ok (.aload_n 0, 1) := by decide +kernel
theorem D191_64 : decode (byt 191) 64 = .ok (.iload_n 1, 1) := by decide +kernel
theorem D191_65 : decode (byt 191) 65 = .ok (.iload 4, 2) := by decide +kernel
theorem D191_67 : decode (byt 191) 67 = .ok (.invokevirtual 294, 3) := by decide +kernel
theorem D191_70 : decode (byt 191) 70 = .ok (.ifCond .eq 6, 3) := by decide +kernel
theorem D191_73 : decode (byt 191) 73 = .ok (.iload 4, 2) := by decide +kernel
theorem D191_75 : decode (byt 191) 75 = .ok (.ireturn, 1) := by decide +kernel
theorem D191_76 : decode (byt 191) 76 = .ok (.iinc 4 1, 3) := by decide +kernel
theorem D191_79 : decode (byt 191) 79 = .ok (.goto (-29), 3) := by decide +kernel
theorem D191_82 : decode (byt 191) 82 = .ok (.iconst (-1), 1) := by decide +kernel
theorem D191_83 : decode (byt 191) 83 = .ok (.ireturn, 1) := by decide +kernel
theorem D192_0 : decode (byt 192) 0 = .ok (.aload_n 0, 1) := by decide +kernel
theorem D192_1 : decode (byt 192) 1 = .ok (.iload_n 1, 1) := by decide +kernel
theorem D192_2 : decode (byt 192) 2 = .ok (.invokevirtual 297, 3) := by decide +kernel
theorem D192_5 : decode (byt 192) 5 = .ok (.istore_n 3, 1) := by decide +kernel
theorem D192_6 : decode (byt 192) 6 = .ok (.iload_n 3, 1) := by decide +kernel
theorem D192_7 : decode (byt 192) 7 = .ok (.ifCond .eq 9, 3) := by decide +kernel
theorem D192_10 : decode (byt 192) 10 = .ok (.aload_n 0, 1) := by decide +kernel
theorem D192_11 : decode (byt 192) 11 = .ok (.iload_n 3, 1) := by decide +kernel
theorem D192_12 : decode (byt 192) 12 = .ok (.invokevirtual 154, 3) := by decide +kernel
theorem D192_15 : decode (byt 192) 15 = .ok (.ireturn, 1) := by decide +kernel
theorem D192_16 : decode (byt 192) 16 = .ok (.iconst (-1), 1) := by decide +kernel
theorem D192_17 : decode (byt 192) 17 = .ok (.istore 4, 2) := by decide +kernel
theorem D192_19 : decode (byt 192) 19 = .ok (.iconst 0, 1) := by decide +kernel
theorem D192_20 : decode (byt 192) 20 = .ok (.istore 5, 2) := by decide +kernel
theorem D192_22 : decode (byt 192) 22 = .ok (.iload 5, 2) := by decide +kernel
theorem D192_24 : decode (byt 192) 24 = .ok (.iconst 1, 1) := by decide +kernel
theorem D192_25 : decode (byt 192) 25 = .ok (.aload_n 0, 1) := by decide +kernel
theorem D192_26 : decode (byt 192) 26 = .ok (.getfield 7, 3) := by decide +kernel
theorem D192_29 : decode (byt 192) 29 = .ok (.iload_n 1, 1) := by decide +kernel
theorem D192_30 : decode (byt 192) 30 = .ok (.iaload, 1) := by decide +kernel
theorem D192_31 : decode (byt 192) 31 = .ok (.ishl, 1) := by decide +kernel
theorem D192_32 : decode (byt 192) 32 = .ok (.if_icmp .ge 74, 3) := by decide +kernel
theorem D192_35 : decode (byt 192) 35 = .ok (.aload_n 0, 1) := by decide +kernel
theorem D192_36 : decode (byt 192) 36 = .ok (.iload_n 1, 1) := by decide +kernel
theorem D192_37 : decode (byt 192) 37 = .ok (.iload 5, 2) := by decide +kernel
theorem D192_39 : decode (byt 192) 39 = .ok (.invokevirtual 294, 3) := by decide +kernel
theorem D192_42 : decode (byt 192) 42 = .ok (.ifCond .ne 6, 3) := by decide +kernel
theorem D192_45 : decode (byt 192) 45 = .ok (.goto 55, 3) := by decide +kernel
theorem D192_48 : decode (byt 192) 48 = .ok (.iload 4, 2) := by decide +kernel
theorem D192_50 : decode (byt 192) 50 = .ok (.ifCond .lt 46, 3) := by decide +kernel
theorem D192_53 : decode (byt 192) 53 = .ok (.iload_n 2, 1) := by decide +kernel
theorem D192_54 : decode (byt 192) 54 = .ok (.ifCond .eq 24, 3) := by decide +kernel
theorem D192_57 : decode (byt 192) 57 = .ok (.aload_n 0, 1) := by decide +kernel
theorem D192_58 : decode (byt 192) 58 = .ok (.iload_n 1, 1) := by decide +kernel
theorem D192_59 : decode (byt 192) 59 = .ok (.iload 5, 2) := by decide +kernel
theorem D192_61 : decode (byt 192) 61 = .ok (.invokevirtual 303, 3) := by decide +kernel
theorem D192_64 : decode (byt 192) 64 = .ok (.aload_n 0, 1) := by decide +kernel
theorem D192_65 : decode (byt 192) 65 = .ok (.iload_n 1, 1) := by decide +kernel
theorem D192_66 : decode (byt 192) 66 = .ok (.iload 4, 2) := by decide +kernel
theorem D192_68 : decode (byt 192) 68 = .ok (.invokevirtual 303, 3) := by decide +kernel
theorem D192_71 : decode (byt 192) 71 = .ok (.lcmp, 1) := by decide +kernel
theorem D192_72 : decode (byt 192) 72 = .ok (.ifCond .ge 28, 3) := by decide +kernel
theorem D192_75 : decode (byt 192) 75 = .ok (.goto 21, 3) := by decide +kernel
theorem D192_78 : decode (byt 192) 78 = .ok (.aload_n 0, 1) := by decide +kernel
theorem D192_79 : decode (byt 192) 79 = .ok (.iload_n 1, 1) := by decide +kernel
theorem D192_80 : decode (byt 192) 80 = .ok (.iload 5, 2) := by decide +kernel
theorem D192_82 : decode (byt 192) 82 = .ok (.invokevirtual 303, 3) := by decide +kernel
theorem D192_85 : decode (byt 192) 85 = .ok (.aload_n 0, 1) := by decide +kernel
theorem D192_86 : decode (byt 192) 86 = .ok (.iload_n 1, 1) := by decide +kernel
theorem D192_87 : decode (byt 192) 87 = .ok (.iload 4, 2) := by decide +kernel
theorem D192_89 : decode (byt 192) 89 = .ok (.invokevirtual 303, 3) := by decide +kernel
theorem D192_92 : decode (byt 192) 92 = .ok (.lcmp, 1) := by decide +kernel
theorem D192_93 : decode (byt 192) 93 = .ok (.ifCond .le 7, 3) := by decide +kernel
theorem D192_96 : decode (byt 192) 96 = .ok (.iload 5, 2) := by decide +kernel
theorem D192_98 : decode (byt 192) 98 = .ok (.istore 4, 2) := by decide +kernel
theorem D192_100 : decode (byt 192) 100 = .ok (.iinc 5 1, 3) := by decide +kernel
theorem D192_103 : decode (byt 192) 103 = .ok (.goto (-81), 3) := by decide +kernel
theorem D192_106 : decode (byt 192) 106 = .ok (.iload 4, 2) := by decide +kernel
theorem D192_108 : decode (byt 192) 108 = .ok (.ifCond .ge 12, 3) := by decide +kernel
theorem D192_111 : decode (byt 192) 111 = .ok (.aload_n 0, 1) := by decide +kernel
theorem D192_112 : decode (byt 192) 112 = .ok (.bipush (-7), 2) := by decide +kernel
theorem D192_114 : decode (byt 192) 114 = .ok (.invokevirtual 154, 3) := by decide +kernel
theorem D192_117 : decode (byt 192) 117 = .ok (.goto 5, 3) := by decide +kernel
theorem D192_120 : decode (byt 192) 120 = .ok (.iload 4, 2) := by decide +kernel
theorem D192_122 : decode (byt 192) 122 = .ok (.ireturn, 1) := by decide +kernel
theorem D193_0 : decode (byt 193) 0 = .ok (.iload_n 1, 1) := by decide +kernel
theorem D193_1 : decode (byt 193) 1 = .ok (.invokestatic 150, 3) := by decide +kernel
theorem D193_4 : decode (byt 193) 4 = .ok (.ifCond .eq 30, 3) := by decide +kernel
theorem D193_7 : decode (byt 193) 7 = .ok (.iload_n 2, 1) := by decide +kernel
theorem D193_8 : decode (byt 193) 8 = .ok (.i2l, 1) := by decide +kernel
theorem D193_9 : decode (byt 193) 9 = .ok (.lconst 0, 1) := by decide +kernel
theorem D193_10 : decode (byt 193) 10 = .ok (.iconst 1, 1) := by decide +kernel
theorem D193_11 : decode (byt 193) 11 = .ok (.aload_n 0, 1) := by decide +kernel
theorem D193_12 : decode (byt 193) 12 = .ok (.getfield 7, 3) := by decide +kernel
theorem D193_15 : decode (byt 193) 15 = .ok (.iload_n 1, 1) := by decide +kernel
theorem D193_16 : decode (byt 193) 16 = .ok (.iaload, 1) := by decide +kernel
theorem D193_17 : decode (byt 193) 17 = .ok (.ishl, 1) := by decide +kernel
theorem D193_18 : decode (byt 193) 18 = .ok (.iconst 1, 1) := by decide +kernel
theorem D193_19 : decode (byt 193) 19 = .ok (.isub, 1) := by decide +kernel
theorem D193_20 : decode (byt 193) 20 = .ok (.i2l, 1) := by decide +kernel
theorem D193_21 : decode (byt 193) 21 = .ok (.invokestatic 146, 3) := by decide +kernel
theorem D193_24 : decode (byt 193) 24 = .ok (.ifCond .eq 10, 3) := by decide +kernel
theorem D193_27 : decode (byt 193) 27 = .ok (.aload_n 0, 1) := by decide +kernel
theorem D193_28 : decode (byt 193) 28 = .ok (.iload_n 1, 1) := by decide +kernel
theorem D193_29 : decode (byt 193) 29 = .ok (.iload_n 2, 1) := by decide +kernel
theorem D193_30 : decode (byt 193) 30 = .ok (.invokevirtual 303, 3) := by decide +kernel
theorem D193_33 : decode (byt 193) 33 = .ok (.lreturn, 1) := by decide +kernel
theorem D193_34 : decode (byt 193) 34 = .ok (.aload_n 0, 1) := by decide +kernel
theorem D193_35 : decode (byt 193) 35 = .ok (.bipush (-3), 2) := by decide +kernel
theorem D193_37 : decode (byt 193) 37 = .ok (.invokevirtual 154, 3) := by decide +kernel
theorem D193_40 : decode (byt 193) 40 = .ok (.istore_n 3, 1) := by decide +kernel
theorem D193_41 : decode (byt 193) 41 = .ok (.lconst 0, 1) := by decide +kernel
theorem D193_42 : decode (byt 193) 42 = .ok (.lreturn, 1) := by decide +kernel
theorem D194_0 : decode (byt 194) 0 = .ok (.aload_n 0, 1) := by decide +kernel
theorem D194_1 : decode (byt 194) 1 = .ok (.iload_n 1, 1) := by decide +kernel
theorem D194_2 : decode (byt 194) 2 = .ok (.invokevirtual 297, 3) := by decide +kernel
theorem D194_5 : decode (byt 194) 5 = .ok (.istore_n 2, 1) := by decide +kernel
theorem D194_6 : decode (byt 194) 6 = .ok (.iload_n 2, 1) := by decide +kernel
theorem D194_7 : decode (byt 194) 7 = .ok (.ifCond .eq 9, 3) := by decide +kernel
theorem D194_10 : decode (byt 194) 10 = .ok (.aload_n 0, 1) := by decide +kernel
theorem D194_11 : decode (byt 194) 11 = .ok (.iload_n 2, 1) := by decide +kernel
theorem D194_12 : decode (byt 194) 12 = .ok (.invokevirtual 154, 3) := by decide +kernel
theorem D194_15 : decode (byt 194) 15 = .ok (.ireturn, 1) := by decide +kernel
theorem D194_16 : decode (byt 194) 16 = .ok (.iconst 0, 1) := by decide +kernel
theorem D194_17 : decode (byt 194) 17 = .ok (.istore_n 3, 1) := by decide +kernel
theorem D194_18 : decode (byt 194) 18 = .ok (.iconst 1, 1) := by decide +kernel
theorem D194_19 : decode (byt 194) 19 = .ok (.istore 4, 2) := by decide +kernel
theorem D194_21 : decode (byt 194) 21 = .ok (.iload 4, 2) := by decide +kernel
theorem D194_23 : decode (byt 194) 23 = .ok (.aload_n 0, 1) := by decide +kernel
theorem D194_24 : decode (byt 194) 24 = .ok (.getfield 7, 3) := by decide +kernel
theorem D194_27 : decode (byt 194) 27 = .ok (.iload_n 1, 1) := by decide +kernel
theorem D194_28 : decode (byt 194) 28 = .ok (.iaload, 1) := by decide +kernel
theorem D194_29 : decode (byt 194) 29 = .ok (.if_icmp .gt 44, 3) := by decide +kernel
theorem D194_32 : decode (byt 194) 32 = .ok (.iload_n 3, 1) := by decide +kernel
theorem D194_33 : decode (byt 194) 33 = .ok (.aload_n 0, 1) := by decide +kernel
theorem D194_34 : decode (byt 194) 34 = .ok (.getfield 19, 3) := by decide +kernel
theorem D194_37 : decode (byt 194) 37 = .ok (.iload_n 1, 1) := by decide +kernel
theorem D194_38 : decode (byt 194) 38 = .ok (.iaload, 1) := by decide +kernel
theorem D194_39 : decode (byt 194) 39 = .ok (.iload 4, 2) := by decide +kernel
theorem D194_41 : decode (byt 194) 41 = .ok (.iconst 1, 1) := by decide +kernel
theorem D194_42 : decode (byt 194) 42 = .ok (.isub, 1) := by decide +kernel
theorem D194_43 : decode (byt 194) 43 = .ok (.ishr, 1) := by decide +kernel
theorem D194_44 : decode (byt 194) 44 = .ok (.iconst 1, 1) := by decide +kernel
theorem D194_45 : decode (byt 194) 45 = .ok (.iand, 1) := by decide +kernel
theorem D194_46 : decode (byt 194) 46 = .ok (.iconst 1, 1) := by decide +kernel
theorem D194_47 : decode (byt 194) 47 = .ok (.if_icmp .ne 17, 3) := by decide +kernel
theorem D194_50 : decode (byt 194) 50 = .ok (.iconst 1, 1) := by decide +kernel
theorem D194_51 : decode (byt 194) 51 = .ok (.aload_n 0, 1) := by decide +kernel
theorem D194_52 : decode (byt 194) 52 = .ok (.getfield 7, 3) := by decide +kernel
theorem D194_55 : decode (byt 194) 55 = .ok (.iload_n 1, 1) := by decide +kernel
theorem D194_56 : decode (byt 194) 56 = .ok (.iaload, 1) := by decide +kernel
theorem D194_57 : decode (byt 194) 57 = .ok (.iload 4, 2) := by decide +kernel
theorem D194_59 : decode (byt 194) 59 = .ok (.isub, 1) := by decide +kernel
theorem D194_60 : decode (byt 194) 60 = .ok (.ishl, 1) := by decide +kernel
theorem D194_61 : decode (byt 194) 61 = .ok (.goto 4, 3) := by decide +kernel
theorem D194_64 : decode (byt 194) 64 = .ok (.iconst 0, 1) := by decide +kernel
theorem D194_65 : decode (byt 194) 65 = .ok (.ior, 1) := by decide +kernel
theorem D194_66 : decode (byt 194) 66 = .ok (.istore_n 3, 1) := by decide +kernel
theorem D194_67 : decode (byt 194) 67 = .ok (.iinc 4 1, 3) := by decide +kernel
theorem D194_70 : decode (byt 194) 70 = .ok (.goto (-49), 3) := by decide +kernel
theorem D194_73 : decode (byt 194) 73 = .ok (.iconst 0, 1) := by decide +kernel
theorem D194_74 : decode (byt 194) 74 = .ok (.istore 4, 2) := by decide +kernel
theorem D194_76 : decode (byt 194) 76 = .ok (.iload 4, 2) := by decide +kernel
theorem D194_78 : decode (byt 194) 78 = .ok (.sipush 4096, 3) := by decide +kernel
theorem D194_81 : decode (byt 194) 81 = .ok (.if_icmp .ge 17, 3) := by decide +kernel
theorem D194_84 : decode (byt 194) 84 = .ok (.aload_n 0, 1) := by decide +kernel
theorem D194_85 : decode (byt 194) 85 = .ok (.getfield 134, 3) := by decide +kernel
theorem D194_88 : decode (byt 194) 88 = .ok (.iload 4, 2) := by decide +kernel
theorem D194_90 : decode (byt 194) 90 = .ok (.iconst 0, 1) := by decide +kernel
theorem D194_91 : decode (byt 194) 91 = .ok (.bastore, 1) := by decide +kernel
theorem D194_92 : decode (byt 194) 92 = .ok (.iinc 4 1, 3) := by decide +kernel
theorem D194_95 : decode (byt 194) 95 = .ok (.goto (-19), 3) := by decide +kernel
theorem D194_98 : decode (byt 194) 98 = .ok (.iconst 0, 1) := by decide +kernel
theorem D194_99 : decode (byt 194) 99 = .ok (.istore 4, 2) := by decide +kernel
theorem D194_101 : decode (byt 194) 101 = .ok (.iconst 0, 1) := by decide +kernel
theorem D194_102 : decode (byt 194) 102 = .ok (.istore 5, 2) := by decide +kernel
theorem D194_104 : decode (byt 194) 104 = .ok (.iload 5, 2) := by decide +kernel
theorem D194_106 : decode (byt 194) 106 = .ok (.iconst 1, 1) := by decide +kernel
theorem D194_107 : decode (byt 194) 107 = .ok (.aload_n 0, 1) := by decide +kernel
theorem D194_108 : decode (byt 194) 108 = .ok (.getfield 7, 3) := by decide +kernel
theorem D194_111 : decode (byt 194) 111 = .ok (.iload_n 1, 1) := by decide +kernel
theorem D194_112 : decode (byt 194) 112 = .ok (.iaload, 1) := by decide +kernel
theorem D194_113 : decode (byt 194) 113 = .ok (.ishl, 1) := by decide +kernel
theorem D194_114 : decode (byt 194) 114 = .ok (.if_icmp .ge 47, 3) := by decide +kernel
theorem D194_117 : decode (byt 194) 117 = .ok (.aload_n 0, 1) := by decide +kernel
theorem D194_118 : decode (byt 194) 118 = .ok (.iload_n 1, 1) := by decide +kernel
theorem D194_119 : decode (byt 194) 119 = .ok (.iload 5, 2) := by decide +kernel
theorem D194_121 : decode (byt 194) 121 = .ok (.invokevirtual 294, 3) := by decide +kernel
theorem D194_124 : decode (byt 194) 124 = .ok (.ifCond .eq 31, 3) := by decide +kernel
theorem D194_127 : decode (byt 194) 127 = .ok (.aload_n 0, 1) := by decide +kernel
theorem D194_128 : decode (byt 194) 128 = .ok (.getfield 134, 3) := by decide +kernel
theorem D194_131 : decode (byt 194) 131 = .ok (.iload 5, 2) := by decide +kernel
theorem D194_133 : decode (byt 194) 133 = .ok (.iload_n 3, 1) := by decide +kernel
theorem D194_134 : decode (byt 194) 134 = .ok (.iand, 1) := by decide +kernel
theorem D194_135 : decode (byt 194) 135 = .ok (.baload, 1) := by decide +kernel
theorem D194_136 : decode (byt 194) 136 = .ok (.ifCond .eq 6, 3) := by decide +kernel
theorem D194_139 : decode (byt 194) 139 = .ok (.goto 16, 3) := by decide +kernel
theorem D194_142 : decode (byt 194) 142 = .ok (.aload_n 0, 1) := by decide +kernel
theorem D194_143 : decode (byt 194) 143 = .ok (.getfield 134, 3) := by decide +kernel
theorem D194_146 : decode (byt 194) 146 = .ok (.iload 5, 2) := by decide +kernel
theorem D194_148 : decode (byt 194) 148 = .ok (.iload_n 3, 1) := by decide +kernel
theorem D194_149 : decode (byt 194) 149 = .ok (.iand, 1) := by decide +kernel
theorem D194_150 : decode (byt 194) 150 = .ok (.iconst 1, 1) := by decide +kernel
theorem D194_151 : decode (byt 194) 151 = .ok (.bastore, 1) := by decide +kernel
theorem D194_152 : decode (byt 194) 152 = .ok (.iinc 4 1, 3) := by decide +kernel
theorem D194_155 : decode (byt 194) 155 = .ok (.iinc 5 1, 3) := by decide +kernel
theorem D194_158 : decode (byt 194) 158 = .ok (.goto (-54), 3) := by decide +kernel
theorem D194_161 : decode (byt 194) 161 = .ok (.iload 4, 2) := by decide +kernel
theorem D194_163 : decode (byt 194) 163 = .ok (.ireturn, 1) := by decide +kernel
theorem D195_0 : decode (byt 195) 0 = .ok (.aload_n 0, 1) := by decide +kernel
theorem D195_1 : decode (byt 195) 1 = .ok (.getfield 34, 3) := by decide +kernel
theorem D195_4 : decode (byt 195) 4 = .ok (.iconst 0, 1) := by decide +kernel
theorem D195_5 : decode (byt 195) 5 = .ok (.iaload, 1) := by decide +kernel
theorem D195_6 : decode (byt 195) 6 = .ok (.ifCond .eq 12, 3) := by decide +kernel
theorem D195_9 : decode (byt 195) 9 = .ok (.aload_n 0, 1) := by decide +kernel
theorem D195_10 : decode (byt 195) 10 = .ok (.getfield 34, 3) := by decide +kernel
theorem D195_13 : decode (byt 195) 13 = .ok (.iconst 1, 1) := by decide +kernel
theorem D195_14 : decode (byt 195) 14 = .ok (.iaload, 1) := by decide +kernel
theorem D195_15 : decode (byt 195) 15 = .ok (.ifCond .ne 10, 3) := by decide +kernel
theorem D195_18 : decode (byt 195) 18 = .ok (.aload_n 0, 1) := by decide +kernel
theorem D195_19 : decode (byt 195) 19 = .ok (.bipush (-2), 2) := by decide +kernel
theorem D195_21 : decode (byt 195) 21 = .ok (.invokevirtual 154, 3) := by decide +kernel
theorem D195_24 : decode (byt 195) 24 = .ok (.ireturn, 1) := by decide +kernel
theorem D195_25 : decode (byt 195) 25 = .ok (.aload_n 0, 1) := by decide +kernel
theorem D195_26 : decode (byt 195) 26 = .ok (.getfield 7, 3) := by decide +kernel
theorem D195_29 : decode (byt 195) 29 = .ok (.iconst 0, 1) := by decide +kernel
theorem D195_30 : decode (byt 195) 30 = .ok (.iaload, 1) := by decide +kernel
theorem D195_31 : decode (byt 195) 31 = .ok (.aload_n 0, 1) := by decide +kernel
theorem D195_32 : decode (byt 195) 32 = .ok (.getfield 7, 3) := by decide +kernel
theorem D195_35 : decode (byt 195) 35 = .ok (.iconst 1, 1) := by decide +kernel
theorem D195_36 : decode (byt 195) 36 = .ok (.iaload, 1) := by decide +kernel
theorem D195_37 : decode (byt 195) 37 = .ok (.if_icmp .eq 10, 3) := by decide +kernel
theorem D195_40 : decode (byt 195) 40 = .ok (.aload_n 0, 1) := by decide +kernel
theorem D195_41 : decode (byt 195) 41 = .ok (.bipush (-7), 2) := by decide +kernel
theorem D195_43 : decode (byt 195) 43 = .ok (.invokevirtual 154, 3) := by decide +kernel
theorem D195_46 : decode (byt 195) 46 = .ok (.ireturn, 1) := by decide +kernel
theorem D195_47 : decode (byt 195) 47 = .ok (.aload_n 0, 1) := by decide +kernel
theorem D195_48 : decode (byt 195) 48 = .ok (.iconst 0, 1) := by decide +kernel
theorem D195_49 : decode (byt 195) 49 = .ok (.invokevirtual 282, 3) := by decide +kernel
theorem D195_52 : decode (byt 195) 52 = .ok (.aload_n 0, 1) := by decide +kernel
theorem D195_53 : decode (byt 195) 53 = .ok (.iconst 1, 1) := by decide +kernel
theorem D195_54 : decode (byt 195) 54 = .ok (.invokevirtual 282, 3) := by decide +kernel
theorem D195_57 : decode (byt 195) 57 = .ok (.iconst 0, 1) := by decide +kernel
theorem D195_58 : decode (byt 195) 58 = .ok (.istore_n 2, 1) := by decide +kernel
theorem D195_59 : decode (byt 195) 59 = .ok (.iconst 0, 1) := by decide +kernel
theorem D195_60 : decode (byt 195) 60 = .ok (.istore_n 3, 1) := by decide +kernel
theorem D195_61 : decode (byt 195) 61 = .ok (.iload_n 3, 1) := by decide +kernel
theorem D195_62 : decode (byt 195) 62 = .ok (.iconst 1, 1) := by decide +kernel
theorem D195_63 : decode (byt 195) 63 = .ok (.aload_n 0, 1) := by decide +kernel
theorem D195_64 : decode (byt 195) 64 = .ok (.getfield 7, 3) := by decide +kernel
theorem D195_67 : decode (byt 195) 67 = .ok (.iconst 0, 1) := by decide +kernel
theorem D195_68 : decode (byt 195) 68 = .ok (.iaload, 1) := by decide +kernel
theorem D195_69 : decode (byt 195) 69 = .ok (.ishl, 1) := by decide +kernel
theorem D195_70 : decode (byt 195) 70 = .ok (.if_icmp .ge 51, 3) := by decide +kernel
theorem D195_73 : decode (byt 195) 73 = .ok (.iload_n 2, 1) := by decide +kernel
theorem D195_74 : decode (byt 195) 74 = .ok (.aload_n 0, 1) := by decide +kernel
theorem D195_75 : decode (byt 195) 75 = .ok (.iload_n 1, 1) := by decide +kernel
theorem D195_76 : decode (byt 195) 76 = .ok (.ifCond .eq 7, 3) := by decide +kernel
theorem D195_79 : decode (byt 195) 79 = .ok (.iconst 1, 1) := by decide +kernel
theorem D195_80 : decode (byt 195) 80 = .ok (.goto 4, 3) := by decide +kernel
theorem D195_83 : decode (byt 195) 83 = .ok (.iconst 0, 1) := by decide +kernel
theorem D195_84 : decode (byt 195) 84 = .ok (.iload_n 3, 1) := by decide +kernel
theorem D195_85 : decode (byt 195) 85 = .ok (.invokevirtual 294, 3) := by decide +kernel
theorem D195_88 : decode (byt 195) 88 = .ok (.ifCond .eq 24, 3) := by decide +kernel
theorem D195_91 : decode (byt 195) 91 = .ok (.aload_n 0, 1) := by decide +kernel
theorem D195_92 : decode (byt 195) 92 = .ok (.iload_n 1, 1) := by decide +kernel
theorem D195_93 : decode (byt 195) 93 = .ok (.ifCond .eq 7, 3) := by decide +kernel
theorem D195_96 : decode (byt 195) 96 = .ok (.iconst 0, 1) := by decide +kernel
theorem D195_97 : decode (byt 195) 97 = .ok (.goto 4, 3) := by decide +kernel
theorem D195_100 : decode (byt 195) 100 = .ok (.iconst 1, 1) := by decide +kernel
theorem D195_101 : decode (byt 195) 101 = .ok (.iload_n 3, 1) := by decide +kernel
theorem D195_102 : decode (byt 195) 102 = .ok (.invokevirtual 294, 3) := by decide +kernel
theorem D195_105 : decode (byt 195) 105 = .ok (.ifCond .ne 7, 3) := by decide +kernel
theorem D195_108 : decode (byt 195) 108 = .ok (.iconst 1, 1) := by decide +kernel
theorem D195_109 : decode (byt 195) 109 = .ok (.goto 4, 3) := by decide +kernel
theorem D195_112 : decode (byt 195) 112 = .ok (.iconst 0, 1) := by decide +kernel
theorem D195_113 : decode (byt 195) 113 = .ok (.iadd, 1) := by decide +kernel
theorem D195_114 : decode (byt 195) 114 = .ok (.istore_n 2, 1) := by decide +kernel
theorem D195_115 : decode (byt 195) 115 = .ok (.iinc 3 1, 3) := by decide +kernel
theorem D195_118 : decode (byt 195) 118 = .ok (.goto (-57), 3) := by decide +kernel
theorem D195_121 : decode (byt 195) 121 = .ok (.iload_n 2, 1) := by decide +kernel
theorem D195_122 : decode (byt 195) 122 = .ok (.ireturn, 1) := by decide +kernel
theorem D196_0 : decode (byt 196) 0 = .ok (.aload_n 0, 1) := by decide +kernel
theorem D196_1 : decode (byt 196) 1 = .ok (.getfield 7, 3) := by decide +kernel
theorem D196_4 : decode (byt 196) 4 = .ok (.iconst 0, 1) := by decide +kernel
theorem D196_5 : decode (byt 196) 5 = .ok (.iaload, 1) := by decide +kernel
theorem D196_6 : decode (byt 196) 6 = .ok (.aload_n 0, 1) := by decide +kernel
theorem D196_7 : decode (byt 196) 7 = .ok (.getfield 7, 3) := by decide +kernel
theorem D196_10 : decode (byt 196) 10 = .ok (.iconst 1, 1) := by decide +kernel
theorem D196_11 : decode (byt 196) 11 = .ok (.iaload, 1) := by decide +kernel
theorem D196_12 : decode (byt 196) 12 = .ok (.if_icmp .eq 10, 3) := by decide +kernel
theorem D196_15 : decode (byt 196) 15 = .ok (.aload_n 0, 1) := by decide +kernel
theorem D196_16 : decode (byt 196) 16 = .ok (.bipush (-7), 2) := by decide +kernel
theorem D196_18 : decode (byt 196) 18 = .ok (.invokevirtual 154, 3) := by decide +kernel
theorem D196_21 : decode (byt 196) 21 = .ok (.ireturn, 1) := by decide +kernel
theorem D196_22 : decode (byt 196) 22 = .ok (.aload_n 0, 1) := by decide +kernel
theorem D196_23 : decode (byt 196) 23 = .ok (.getfield 16, 3) := by decide +kernel
theorem D196_26 : decode (byt 196) 26 = .ok (.iconst 0, 1) := by decide +kernel
theorem D196_27 : decode (byt 196) 27 = .ok (.iaload, 1) := by decide +kernel
theorem D196_28 : decode (byt 196) 28 = .ok (.aload_n 0, 1) := by decide +kernel
theorem D196_29 : decode (byt 196) 29 = .ok (.getfield 16, 3) := by decide +kernel
theorem D196_32 : decode (byt 196) 32 = .ok (.iconst 1, 1) := by decide +kernel
theorem D196_33 : decode (byt 196) 33 = .ok (.iaload, 1) := by decide +kernel
theorem D196_34 : decode (byt 196) 34 = .ok (.iadd, 1) := by decide +kernel
theorem D196_35 : decode (byt 196) 35 = .ok (.bipush 40, 2) := by decide +kernel
theorem D196_37 : decode (byt 196) 37 = .ok (.if_icmp .le 10, 3) := by decide +kernel
theorem D196_40 : decode (byt 196) 40 = .ok (.aload_n 0, 1) := by decide +kernel
theorem D196_41 : decode (byt 196) 41 = .ok (.bipush (-8), 2) := by decide +kernel
theorem D196_43 : decode (byt 196) 43 = .ok (.invokevirtual 154, 3) := by decide +kernel
theorem D196_46 : decode (byt 196) 46 = .ok (.ireturn, 1) := by decide +kernel
theorem D196_47 : decode (byt 196) 47 = .ok (.iconst 0, 1) := by decide +kernel
theorem D196_48 : decode (byt 196) 48 = .ok (.istore_n 1, 1) := by decide +kernel
theorem D196_49 : decode (byt 196) 49 = .ok (.iload_n 1, 1) := by decide +kernel
theorem D196_50 : decode (byt 196) 50 = .ok (.aload_n 0, 1) := by decide +kernel
theorem D196_51 : decode (byt 196) 51 = .ok (.getfield 16, 3) := by decide +kernel
theorem D196_54 : decode (byt 196) 54 = .ok (.iconst 1, 1) := by decide +kernel
theorem D196_55 : decode (byt 196) 55 = .ok (.iaload, 1) := by decide +kernel
theorem D196_56 : decode (byt 196) 56 = .ok (.if_icmp .ge 46, 3) := by decide +kernel
theorem D196_59 : decode (byt 196) 59 = .ok (.aload_n 0, 1) := by decide +kernel
theorem D196_60 : decode (byt 196) 60 = .ok (.getfield 13, 3) := by decide +kernel
theorem D196_63 : decode (byt 196) 63 = .ok (.aload_n 0, 1) := by decide +kernel
theorem D196_64 : decode (byt 196) 64 = .ok (.getfield 16, 3) := by decide +kernel
theorem D196_67 : decode (byt 196) 67 = .ok (.iconst 0, 1) := by decide +kernel
theorem D196_68 : decode (byt 196) 68 = .ok (.iaload, 1) := by decide +kernel
theorem D196_69 : decode (byt 196) 69 = .ok (.aload_n 0, 1) := by decide +kernel
theorem D196_70 : decode (byt 196) 70 = .ok (.getfield 13, 3) := by decide +kernel
theorem D196_73 : decode (byt 196) 73 = .ok (.bipush 40, 2) := by decide +kernel
theorem D196_75 : decode (byt 196) 75 = .ok (.iload_n 1, 1) := by decide +kernel
theorem D196_76 : decode (byt 196) 76 = .ok (.iadd, 1) := by decide +kernel
theorem D196_77 : decode (byt 196) 77 = .ok (.iaload, 1) := by decide +kernel
theorem D196_78 : decode (byt 196) 78 = .ok (.iastore, 1) := by decide +kernel
theorem D196_79 : decode (byt 196) 79 = .ok (.aload_n 0, 1) := by decide +kernel
theorem D196_80 : decode (byt 196) 80 = .ok (.getfield 16, 3) := by decide +kernel
theorem D196_83 : decode (byt 196) 83 = .ok (.iconst 0, 1) := by decide +kernel
theorem D196_84 : decode (byt 196) 84 = .ok (.dup2, 1) := by decide +kernel
theorem D196_85 : decode (byt 196) 85 = .ok (.iaload, 1) := by decide +kernel
theorem D196_86 : decode (byt 196) 86 = .ok (.iconst 1, 1) := by decide +kernel
theorem D196_87 : decode (byt 196) 87 = .ok (.iadd, 1) := by decide +kernel
theorem D196_88 : decode (byt 196) 88 = .ok (.iastore, 1) := by decide +kernel
theorem D196_89 : decode (byt 196) 89 = .ok (.aload_n 0, 1) := by decide +kernel
theorem D196_90 : decode (byt 196) 90 = .ok (.getfield 34, 3) := by decide +kernel
theorem D196_93 : decode (byt 196) 93 = .ok (.iconst 0, 1) := by decide +kernel
theorem D196_94 : decode (byt 196) 94 = .ok (.iconst 0, 1) := by decide +kernel
theorem D196_95 : decode (byt 196) 95 = .ok (.iastore, 1) := by decide +kernel
theorem D196_96 : decode (byt 196) 96 = .ok (.iinc 1 1, 3) := by decide +kernel
theorem D196_99 : decode (byt 196) 99 = .ok (.goto (-50), 3) := by decide +kernel
theorem D196_102 : decode (byt 196) 102 = .ok (.aload_n 0, 1) := by decide +kernel
theorem D196_103 : decode (byt 196) 103 = .ok (.getfield 16, 3) := by decide +kernel
theorem D196_106 : decode (byt 196) 106 = .ok (.iconst 0, 1) := by decide +kernel
theorem D196_107 : decode (byt 196) 107 = .ok (.iaload, 1) := by decide +kernel
theorem D196_108 : decode (byt 196) 108 = .ok (.ireturn, 1) := by decide +kernel
theorem D197_0 : decode (byt 197) 0 = .ok (.iload_n 1, 1) := by decide +kernel
theorem D197_1 : decode (byt 197) 1 = .ok (.invokestatic 150, 3) := by decide +kernel
theorem D197_4 : decode (byt 197) 4 = .ok (.ifCond .eq 21, 3) := by decide +kernel
theorem D197_7 : decode (byt 197) 7 = .ok (.iload_n 2, 1) := by decide +kernel
theorem D197_8 : decode (byt 197) 8 = .ok (.i2l, 1) := by decide +kernel
theorem D197_9 : decode (byt 197) 9 = .ok (.lconst 0, 1) := by decide +kernel
theorem D197_10 : decode (byt 197) 10 = .ok (.aload_n 0, 1) := by decide +kernel
theorem D197_11 : decode (byt 197) 11 = .ok (.getfield 16, 3) := by decide +kernel
theorem D197_14 : decode (byt 197) 14 = .ok (.iload_n 1, 1) := by decide +kernel
theorem D197_15 : decode (byt 197) 15 = .ok (.iaload, 1) := by decide +kernel
theorem D197_16 : decode (byt 197) 16 = .ok (.iconst 1, 1) := by decide +kernel
theorem D197_17 : decode (byt 197) 17 = .ok (.isub, 1) := by decide +kernel
theorem D197_18 : decode (byt 197) 18 = .ok (.i2l, 1) := by decide +kernel
theorem D197_19 : decode (byt 197) 19 = .ok (.invokestatic 146, 3) := by decide +kernel
theorem D197_22 : decode (byt 197) 22 = .ok (.ifCond .ne 10, 3) := by decide +kernel
theorem D197_25 : decode (byt 197) 25 = .ok (.aload_n 0, 1) := by decide +kernel
theorem D197_26 : decode (byt 197) 26 = .ok (.bipush (-3), 2) := by decide +kernel
theorem D197_28 : decode (byt 197) 28 = .ok (.invokevirtual 154, 3) := by decide +kernel
theorem D197_31 : decode (byt 197) 31 = .ok (.ireturn, 1) := by decide +kernel
theorem D197_32 : decode (byt 197) 32 = .ok (.aload_n 0, 1) := by decide +kernel
theorem D197_33 : decode (byt 197) 33 = .ok (.iconst 0, 1) := by decide +kernel
theorem D197_34 : decode (byt 197) 34 = .ok (.putfield 143, 3) := by decide +kernel
theorem D197_37 : decode (byt 197) 37 = .ok (.aload_n 0, 1) := by decide +kernel
theorem D197_38 : decode (byt 197) 38 = .ok (.getfield 13, 3) := by decide +kernel
theorem D197_41 : decode (byt 197) 41 = .ok (.bipush 40, 2) := by decide +kernel
theorem D197_43 : decode (byt 197) 43 = .ok (.iload_n 1, 1) := by decide +kernel
theorem D197_44 : decode (byt 197) 44 = .ok (.imul, 1) := by decide +kernel
theorem D197_45 : decode (byt 197) 45 = .ok (.iload_n 2, 1) := by decide +kernel
theorem D197_46 : decode (byt 197) 46 = .ok (.iadd, 1) := by decide +kernel
theorem D197_47 : decode (byt 197) 47 = .ok (.iaload, 1) := by decide +kernel
theorem D197_48 : decode (byt 197) 48 = .ok (.istore_n 3, 1) := by decide +kernel
theorem D197_49 : decode (byt 197) 49 = .ok (.iconst 1, 1) := by decide +kernel
theorem D197_50 : decode (byt 197) 50 = .ok (.istore 4, 2) := by decide +kernel
theorem D197_52 : decode (byt 197) 52 = .ok (.iload 4, 2) := by decide +kernel
theorem D197_54 : decode (byt 197) 54 = .ok (.bipush 12, 2) := by decide +kernel
theorem D197_56 : decode (byt 197) 56 = .ok (.if_icmp .gt 66, 3) := by decide +kernel
theorem D197_59 : decode (byt 197) 59 = .ok (.iload_n 3, 1) := by decide +kernel
theorem D197_60 : decode (byt 197) 60 = .ok (.iload 4, 2) := by decide +kernel
theorem D197_62 : decode (byt 197) 62 = .ok (.invokestatic 170, 3) := by decide +kernel
theorem D197_65 : decode (byt 197) 65 = .ok (.iload 4, 2) := by decide +kernel
theorem D197_67 : decode (byt 197) 67 = .ok (.ineg, 1) := by decide +kernel
theorem D197_68 : decode (byt 197) 68 = .ok (.invokestatic 170, 3) := by decide +kernel
theorem D197_71 : decode (byt 197) 71 = .ok (.ior, 1) := by decide +kernel
theorem D197_72 : decode (byt 197) 72 = .ok (.iand, 1) := by decide +kernel
theorem D197_73 : decode (byt 197) 73 = .ok (.ifCond .ne 6, 3) := by decide +kernel
theorem D197_76 : decode (byt 197) 76 = .ok (.goto 40, 3) := by decide +kernel
theorem D197_79 : decode (byt 197) 79 = .ok (.aload_n 0, 1) := by decide +kernel
theorem D197_80 : decode (byt 197) 80 = .ok (.getfield 137, 3) := by decide +kernel
theorem D197_83 : decode (byt 197) 83 = .ok (.aload_n 0, 1) := by decide +kernel
theorem D197_84 : decode (byt 197) 84 = .ok (.getfield 143, 3) := by decide +kernel
theorem D197_87 : decode (byt 197) 87 = .ok (.iload_n 3, 1) := by decide +kernel
theorem D197_88 : decode (byt 197) 88 = .ok (.iload 4, 2) := by decide +kernel
theorem D197_90 : decode (byt 197) 90 = .ok (.invokestatic 170, 3) := by decide +kernel
theorem D197_93 : decode (byt 197) 93 = .ok (.iand, 1) := by decide +kernel
theorem D197_94 : decode (byt 197) 94 = .ok (.ifCond .eq 8, 3) := by decide +kernel
theorem D197_97 : decode (byt 197) 97 = .ok (.iload 4, 2) := by decide +kernel
theorem D197_99 : decode (byt 197) 99 = .ok (.goto 6, 3) := by decide +kernel
theorem D197_102 : decode (byt 197) 102 = .ok (.iload 4, 2) := by decide +kernel
theorem D197_104 : decode (byt 197) 104 = .ok (.ineg, 1) := by decide +kernel
theorem D197_105 : decode (byt 197) 105 = .ok (.iastore, 1) := by decide +kernel
theorem D197_106 : decode (byt 197) 106 = .ok (.aload_n 0, 1) := by decide +kernel
theorem D197_107 : decode (byt 197) 107 = .ok (.dup, 1) := by decide +kernel
theorem D197_108 : decode (byt 197) 108 = .ok (.getfield 143, 3) := by decide +kernel
theorem D197_111 : decode (byt 197) 111 = .ok (.iconst 1, 1) := by decide +kernel
theorem D197_112 : decode (byt 197) 112 = .ok (.iadd, 1) := by decide +kernel
theorem D197_113 : decode (byt 197) 113 = .ok (.putfield 143, 3) := by decide +kernel
theorem D197_116 : decode (byt 197) 116 = .ok (.iinc 4 1, 3) := by decide +kernel
theorem D197_119 : decode (byt 197) 119 = .ok (.goto (-67), 3) := by decide +kernel
theorem D197_122 : decode (byt 197) 122 = .ok (.aload_n 0, 1) := by decide +kernel
theorem D197_123 : decode (byt 197) 123 = .ok (.getfield 143, 3) := by decide +kernel
theorem D197_126 : decode (byt 197) 126 = .ok (.ireturn, 1) := by decide +kernel
theorem D198_0 : decode (byt 198) 0 = .ok (.aload_n 0, 1) := by decide +kernel
theorem D198_1 : decode (byt 198) 1 = .ok (.getfield 143, 3) := by decide +kernel
theorem D198_4 : decode (byt 198) 4 = .ok (.ifCond .lt 7, 3) := by decide +kernel
theorem D198_7 : decode (byt 198) 7 = .ok (.iconst 1, 1) := by decide +kernel
theorem D198_8 : decode (byt 198) 8 = .ok (.goto 4, 3) := by decide +kernel
theorem D198_11 : decode (byt 198) 11 = .ok (.iconst 0, 1) := by decide +kernel
theorem D198_12 : decode (byt 198) 12 = .ok (.istore_n 1, 1) := by decide +kernel
theorem D198_13 : decode (byt 198) 13 = .ok (.aload_n 0, 1) := by decide +kernel
theorem D198_14 : decode (byt 198) 14 = .ok (.iconst (-1), 1) := by decide +kernel
theorem D198_15 : decode (byt 198) 15 = .ok (.putfield 143, 3) := by decide +kernel
theorem D198_18 : decode (byt 198) 18 = .ok (.iload_n 1, 1) := by decide +kernel
theorem D198_19 : decode (byt 198) 19 = .ok (.ireturn, 1) := by decide +kernel
theorem D199_0 : decode (byt 199) 0 = .ok (.aload_n 0, 1) := by decide +kernel
theorem D199_1 : decode (byt 199) 1 = .ok (.getfield 143, 3) := by decide +kernel
theorem D199_4 : decode (byt 199) 4 = .ok (.ifCond .lt 26, 3) := by decide +kernel
theorem D199_7 : decode (byt 199) 7 = .ok (.iload_n 1, 1) := by decide +kernel
theorem D199_8 : decode (byt 199) 8 = .ok (.i2l, 1) := by decide +kernel
theorem D199_9 : decode (byt 199) 9 = .ok (.lconst 0, 1) := by decide +kernel
theorem D199_10 : decode (byt 199) 10 = .ok (.aload_n 0, 1) := by decide +kernel
theorem D199_11 : decode (byt 199) 11 = .ok (.getfield 143, 3) := by decide +kernel
theorem D199_14 : decode (byt 199) 14 = .ok (.iconst 1, 1) := by decide +kernel
theorem D199_15 : decode (byt 199) 15 = .ok (.isub, 1) := by decide +kernel
theorem D199_16 : decode (byt 199) 16 = .ok (.i2l, 1) := by decide +kernel
theorem D199_17 : decode (byt 199) 17 = .ok (.invokestatic 146, 3) := by decide +kernel
theorem D199_20 : decode (byt 199) 20 = .ok (.ifCond .eq 10, 3) := by decide +kernel
theorem D199_23 : decode (byt 199) 23 = .ok (.aload_n 0, 1) := by decide +kernel
theorem D199_24 : decode (byt 199) 24 = .ok (.getfield 137, 3) := by decide +kernel
theorem D199_27 : decode (byt 199) 27 = .ok (.iload_n 1, 1) := by decide +kernel
theorem D199_28 : decode (byt 199) 28 = .ok (.iaload, 1) := by decide +kernel
theorem D199_29 : decode (byt 199) 29 = .ok (.ireturn, 1) := by decide +kernel
theorem D199_30 : decode (byt 199) 30 = .ok (.aload_n 0, 1) := by decide +kernel
theorem D199_31 : decode (byt 199) 31 = .ok (.aload_n 0, 1) := by decide +kernel
theorem D199_32 : decode (byt 199) 32 = .ok (.getfield 143, 3) := by decide +kernel
theorem D199_35 : decode (byt 199) 35 = .ok (.ifCond .ge 8, 3) := by decide +kernel
theorem D199_38 : decode (byt 199) 38 = .ok (.bipush (-2), 2) := by decide +kernel
theorem D199_40 : decode (byt 199) 40 = .ok (.goto 5, 3) := by decide +kernel
theorem D199_43 : decode (byt 199) 43 = .ok (.bipush (-3), 2) := by decide +kernel
theorem D199_45 : decode (byt 199) 45 = .ok (.invokevirtual 154, 3) := by decide +kernel
theorem D199_48 : decode (byt 199) 48 = .ok (.istore_n 2, 1) := by decide +kernel
theorem D199_49 : decode (byt 199) 49 = .ok (.iconst 0, 1) := by decide +kernel
theorem D199_50 : decode (byt 199) 50 = .ok (.ireturn, 1) := by decide +kernel
theorem D200_0 : decode (byt 200) 0 = .ok (.aload_n 0, 1) := by decide +kernel
theorem D200_1 : decode (byt 200) 1 = .ok (.getfield 143, 3) := by decide +kernel
theorem D200_4 : decode (byt 200) 4 = .ok (.ifCond .ge 10, 3) := by decide +kernel
theorem D200_7 : decode (byt 200) 7 = .ok (.aload_n 0, 1) := by decide +kernel
theorem D200_8 : decode (byt 200) 8 = .ok (.bipush (-2), 2) := by decide +kernel
theorem D200_10 : decode (byt 200) 10 = .ok (.invokevirtual 154, 3) := by decide +kernel
theorem D200_13 : decode (byt 200) 13 = .ok (.ireturn, 1) := by decide +kernel
theorem D200_14 : decode (byt 200) 14 = .ok (.iload_n 3, 1) := by decide +kernel
theorem D200_15 : decode (byt 200) 15 = .ok (.ifCond .ge 10, 3) := by decide +kernel
theorem D200_18 : decode (byt 200) 18 = .ok (.aload_n 0, 1) := by decide +kernel
theorem D200_19 : decode (byt 200) 19 = .ok (.bipush (-4), 2) := by decide +kernel
theorem D200_21 : decode (byt 200) 21 = .ok (.invokevirtual 154, 3) := by decide +kernel
theorem D200_24 : decode (byt 200) 24 = .ok (.ireturn, 1) := by decide +kernel
theorem D200_25 : decode (byt 200) 25 = .ok (.iload_n 1, 1) := by decide +kernel
theorem D200_26 : decode (byt 200) 26 = .ok (.ifCond .lt 35, 3) := by decide +kernel
theorem D200_29 : decode (byt 200) 29 = .ok (.iload_n 2, 1) := by decide +kernel
theorem D200_30 : decode (byt 200) 30 = .ok (.ifCond .lt 31, 3) := by decide +kernel
theorem D200_33 : decode (byt 200) 33 = .ok (.iload_n 1, 1) := by decide +kernel
theorem D200_34 : decode (byt 200) 34 = .ok (.i2l, 1) := by decide +kernel
theorem D200_35 : decode (byt 200) 35 = .ok (.iload_n 3, 1) := by decide +kernel
theorem D200_36 : decode (byt 200) 36 = .ok (.i2l, 1) := by decide +kernel
theorem D200_37 : decode (byt 200) 37 = .ok (.ladd, 1) := by decide +kernel
theorem D200_38 : decode (byt 200) 38 = .ok (.aload_n 0, 1) := by decide +kernel
theorem D200_39 : decode (byt 200) 39 = .ok (.getfield 143, 3) := by decide +kernel
theorem D200_42 : decode (byt 200) 42 = .ok (.i2l, 1) := by decide +kernel
theorem D200_43 : decode (byt 200) 43 = .ok (.lcmp, 1) := by decide +kernel
theorem D200_44 : decode (byt 200) 44 = .ok (.ifCond .gt 17, 3) := by decide +kernel
theorem D200_47 : decode (byt 200) 47 = .ok (.iload_n 2, 1) := by decide +kernel
theorem D200_48 : decode (byt 200) 48 = .ok (.i2l, 1) := by decide +kernel
theorem D200_49 : decode (byt 200) 49 = .ok (.iload_n 3, 1) := by decide +kernel
theorem D200_50 : decode (byt 200) 50 = .ok (.i2l, 1) := by decide +kernel
theorem D200_51 : decode (byt 200) 51 = .ok (.ladd, 1) := by decide +kernel
theorem D200_52 : decode (byt 200) 52 = .ok (.aload_n 0, 1) := by decide +kernel
theorem D200_53 : decode (byt 200) 53 = .ok (.getfield 143, 3) := by decide +kernel
theorem D200_56 : decode (byt 200) 56 = .ok (.i2l, 1) := by decide +kernel
theorem D200_57 : decode (byt 200) 57 = .ok (.lcmp, 1) := by decide +kernel
theorem D200_58 : decode (byt 200) 58 = .ok (.ifCond .le 10, 3) := by decide +kernel
theorem D200_61 : decode (byt 200) 61 = .ok (.aload_n 0, 1) := by decide +kernel
theorem D200_62 : decode (byt 200) 62 = .ok (.bipush (-6), 2) := by decide +kernel
theorem D200_64 : decode (byt 200) 64 = .ok (.invokevirtual 154, 3) := by decide +kernel
theorem D200_67 : decode (byt 200) 67 = .ok (.ireturn, 1) := by decide +kernel
theorem D200_68 : decode (byt 200) 68 = .ok (.iconst 0, 1) := by decide +kernel
theorem D200_69 : decode (byt 200) 69 = .ok (.istore 4, 2) := by decide +kernel
theorem D200_71 : decode (byt 200) 71 = .ok (.iload 4, 2) := by decide +kernel
theorem D200_73 : decode (byt 200) 73 = .ok (.iload_n 3, 1) := by decide +kernel
theorem D200_74 : decode (byt 200) 74 = .ok (.if_icmp .ge 25, 3) := by decide +kernel
theorem D200_77 : decode (byt 200) 77 = .ok (.aload_n 0, 1) := by decide +kernel
theorem D200_78 : decode (byt 200) 78 = .ok (.getfield 140, 3) := by decide +kernel
theorem D200_81 : decode (byt 200) 81 = .ok (.iload 4, 2) := by decide +kernel
theorem D200_83 : decode (byt 200) 83 = .ok (.aload_n 0, 1) := by decide +kernel
theorem D200_84 : decode (byt 200) 84 = .ok (.getfield 137, 3) := by decide +kernel
theorem D200_87 : decode (byt 200) 87 = .ok (.iload_n 1, 1) := by decide +kernel
theorem D200_88 : decode (byt 200) 88 = .ok (.iload 4, 2) := by decide +kernel
theorem D200_90 : decode (byt 200) 90 = .ok (.iadd, 1) := by decide +kernel
theorem D200_91 : decode (byt 200) 91 = .ok (.iaload, 1) := by decide +kernel
theorem D200_92 : decode (byt 200) 92 = .ok (.iastore, 1) := by decide +kernel
theorem D200_93 : decode (byt 200) 93 = .ok (.iinc 4 1, 3) := by decide +kernel
theorem D200_96 : decode (byt 200) 96 = .ok (.goto (-25), 3) := by decide +kernel
theorem D200_99 : decode (byt 200) 99 = .ok (.iconst 0, 1) := by decide +kernel
theorem D200_100 : decode (byt 200) 100 = .ok (.istore 4, 2) := by decide +kernel
theorem D200_102 : decode (byt 200) 102 = .ok (.iload 4, 2) := by decide +kernel
theorem D200_104 : decode (byt 200) 104 = .ok (.iload_n 3, 1) := by decide +kernel
theorem D200_105 : decode (byt 200) 105 = .ok (.if_icmp .ge 25, 3) := by decide +kernel
theorem D200_108 : decode (byt 200) 108 = .ok (.aload_n 0, 1) := by decide +kernel
theorem D200_109 : decode (byt 200) 109 = .ok (.getfield 137, 3) := by decide +kernel
theorem D200_112 : decode (byt 200) 112 = .ok (.iload_n 2, 1) := by decide +kernel
theorem D200_113 : decode (byt 200) 113 = .ok (.iload 4, 2) := by decide +kernel
theorem D200_115 : decode (byt 200) 115 = .ok (.iadd, 1) := by decide +kernel
theorem D200_116 : decode (byt 200) 116 = .ok (.aload_n 0, 1) := by decide +kernel
theorem D200_117 : decode (byt 200) 117 = .ok (.getfield 140, 3) := by decide +kernel
theorem D200_120 : decode (byt 200) 120 = .ok (.iload 4, 2) := by decide +kernel
theorem D200_122 : decode (byt 200) 122 = .ok (.iaload, 1) := by decide +kernel
theorem D200_123 : decode (byt 200) 123 = .ok (.iastore, 1) := by decide +kernel
theorem D200_124 : decode (byt 200) 124 = .ok (.iinc 4 1, 3) := by decide +kernel
theorem D200_127 : decode (byt 200) 127 = .ok (.goto (-25), 3) := by decide +kernel
theorem D200_130 : decode (byt 200) 130 = .ok (.iload_n 3, 1) := by decide +kernel
theorem D200_131 : decode (byt 200) 131 = .ok (.ireturn, 1) := by decide +kernel
theorem D201_0 : decode (byt 201) 0 = .ok (.iload_n 1, 1) := by decide +kernel
theorem D201_1 : decode (byt 201) 1 = .ok (.invokestatic 150, 3) := by decide +kernel
theorem D201_4 : decode (byt 201) 4 = .ok (.ifCond .ne 10, 3) := by decide +kernel
theorem D201_7 : decode (byt 201) 7 = .ok (.aload_n 0, 1) := by decide +kernel
theorem D201_8 : decode (byt 201) 8 = .ok (.bipush (-3), 2) := by decide +kernel
theorem D201_10 : decode (byt 201) 10 = .ok (.invokevirtual 154, 3) := by decide +kernel
theorem D201_13 : decode (byt 201) 13 = .ok (.ireturn, 1) := by decide +kernel
theorem D201_14 : decode (byt 201) 14 = .ok (.aload_n 0, 1) := by decide +kernel
theorem D201_15 : decode (byt 201) 15 = .ok (.getfield 143, 3) := by decide +kernel
theorem D201_18 : decode (byt 201) 18 = .ok (.ifCond .ge 10, 3) := by decide +kernel
theorem D201_21 : decode (byt 201) 21 = .ok (.aload_n 0, 1) := by decide +kernel
theorem D201_22 : decode (byt 201) 22 = .ok (.bipush (-2), 2) := by decide +kernel
theorem D201_24 : decode (byt 201) 24 = .ok (.invokevirtual 154, 3) := by decide +kernel
theorem D201_27 : decode (byt 201) 27 = .ok (.ireturn, 1) := by decide +kernel
theorem D201_28 : decode (byt 201) 28 = .ok (.iconst 0, 1) := by decide +kernel
theorem D201_29 : decode (byt 201) 29 = .ok (.istore_n 2, 1) := by decide +kernel
theorem D201_30 : decode (byt 201) 30 = .ok (.iconst 0, 1) := by decide +kernel
theorem D201_31 : decode (byt 201) 31 = .ok (.istore_n 3, 1) := by decide +kernel
theorem D201_32 : decode (byt 201) 32 = .ok (.iload_n 3, 1) := by decide +kernel
theorem D201_33 : decode (byt 201) 33 = .ok (.aload_n 0, 1) := by decide +kernel
theorem D201_34 : decode (byt 201) 34 = .ok (.getfield 143, 3) := by decide +kernel
theorem D201_37 : decode (byt 201) 37 = .ok (.if_icmp .ge 42, 3) := by decide +kernel
theorem D201_40 : decode (byt 201) 40 = .ok (.aload_n 0, 1) := by decide +kernel
theorem D201_41 : decode (byt 201) 41 = .ok (.iload_n 1, 1) := by decide +kernel
theorem D201_42 : decode (byt 201) 42 = .ok (.aload_n 0, 1) := by decide +kernel
theorem D201_43 : decode (byt 201) 43 = .ok (.getfield 137, 3) := by decide +kernel
theorem D201_46 : decode (byt 201) 46 = .ok (.iload_n 3, 1) := by decide +kernel
theorem D201_47 : decode (byt 201) 47 = .ok (.iaload, 1) := by decide +kernel
theorem D201_48 : decode (byt 201) 48 = .ok (.invokevirtual 163, 3) := by decide +kernel
theorem D201_51 : decode (byt 201) 51 = .ok (.ifCond .ne 10, 3) := by decide +kernel
theorem D201_54 : decode (byt 201) 54 = .ok (.aload_n 0, 1) := by decide +kernel
theorem D201_55 : decode (byt 201) 55 = .ok (.bipush (-3), 2) := by decide +kernel
theorem D201_57 : decode (byt 201) 57 = .ok (.invokevirtual 154, 3) := by decide +kernel
theorem D201_60 : decode (byt 201) 60 = .ok (.ireturn, 1) := by decide +kernel
theorem D201_61 : decode (byt 201) 61 = .ok (.iload_n 2, 1) := by decide +kernel
theorem D201_62 : decode (byt 201) 62 = .ok (.aload_n 0, 1) := by decide +kernel
theorem D201_63 : decode (byt 201) 63 = .ok (.getfield 137, 3) := by decide +kernel
theorem D201_66 : decode (byt 201) 66 = .ok (.iload_n 3, 1) := by decide +kernel
theorem D201_67 : decode (byt 201) 67 = .ok (.iaload, 1) := by decide +kernel
theorem D201_68 : decode (byt 201) 68 = .ok (.invokestatic 170, 3) := by decide +kernel
theorem D201_71 : decode (byt 201) 71 = .ok (.ior, 1) := by decide +kernel
theorem D201_72 : decode (byt 201) 72 = .ok (.istore_n 2, 1) := by decide +kernel
theorem D201_73 : decode (byt 201) 73 = .ok (.iinc 3 1, 3) := by decide +kernel
theorem D201_76 : decode (byt 201) 76 = .ok (.goto (-44), 3) := by decide +kernel
theorem D201_79 : decode (byt 201) 79 = .ok (.aload_n 0, 1) := by decide +kernel
theorem D201_80 : decode (byt 201) 80 = .ok (.iload_n 1, 1) := by decide +kernel
theorem D201_81 : decode (byt 201) 81 = .ok (.iload_n 2, 1) := by decide +kernel
theorem D201_82 : decode (byt 201) 82 = .ok (.invokevirtual 173, 3) := by decide +kernel
theorem D201_85 : decode (byt 201) 85 = .ok (.ireturn, 1) := by decide +kernel
theorem D202_0 : decode (byt 202) 0 = .ok (.iload_n 1, 1) := by decide +kernel
theorem D202_1 : decode (byt 202) 1 = .ok (.i2l, 1) := by decide +kernel
theorem D202_2 : decode (byt 202) 2 = .ok (.ldc2_w 312, 3) := by decide +kernel
theorem D202_5 : decode (byt 202) 5 = .ok (.ldc2_w 314, 3) := by decide +kernel
theorem D202_8 : decode (byt 202) 8 = .ok (.invokestatic 146, 3) := by decide +kernel
theorem D202_11 : decode (byt 202) 11 = .ok (.ifCond .eq 13, 3) := by decide +kernel
theorem D202_14 : decode (byt 202) 14 = .ok (.aload_n 0, 1) := by decide +kernel
theorem D202_15 : decode (byt 202) 15 = .ok (.getfield 31, 3) := by decide +kernel
theorem D202_18 : decode (byt 202) 18 = .ok (.iload_n 1, 1) := by decide +kernel
theorem D202_19 : decode (byt 202) 19 = .ok (.ineg, 1) := by decide +kernel
theorem D202_20 : decode (byt 202) 20 = .ok (.iaload, 1) := by decide +kernel
theorem D202_21 : decode (byt 202) 21 = .ok (.goto 9, 3) := by decide +kernel
theorem D202_24 : decode (byt 202) 24 = .ok (.aload_n 0, 1) := by decide +kernel
theorem D202_25 : decode (byt 202) 25 = .ok (.bipush (-7), 2) := by decide +kernel
theorem D202_27 : decode (byt 202) 27 = .ok (.invokevirtual 154, 3) := by decide +kernel
theorem D202_30 : decode (byt 202) 30 = .ok (.ireturn, 1) := by decide +kernel
