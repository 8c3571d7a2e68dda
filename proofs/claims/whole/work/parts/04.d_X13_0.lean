theorem dX13_init_0 : decode cX13_init 0 = .ok (.aload_n 0, 1) := by decide +kernel
theorem dX13_init_1 : decode cX13_init 1 = .ok (.invokespecial 1, 3) := by decide +kernel
theorem dX13_init_4 : decode cX13_init 4 = .ok (.aload_n 0, 1) := by decide +kernel
theorem dX13_init_5 : decode cX13_init 5 = .ok (.bipush 6, 2) := by decide +kernel
theorem dX13_init_7 : decode cX13_init 7 = .ok (.anewarray 7, 3) := by decide +kernel
theorem dX13_init_10 : decode cX13_init 10 = .ok (.dup, 1) := by decide +kernel
theorem dX13_init_11 : decode cX13_init 11 = .ok (.iconst 0, 1) := by decide +kernel
theorem dX13_init_12 : decode cX13_init 12 = .ok (.ldc 9, 2) := by decide +kernel
theorem dX13_init_14 : decode cX13_init 14 = .ok (.aastore, 1) := by decide +kernel
theorem dX13_init_15 : decode cX13_init 15 = .ok (.dup, 1) := by decide +kernel
theorem dX13_init_16 : decode cX13_init 16 = .ok (.iconst 1, 1) := by decide +kernel
theorem dX13_init_17 : decode cX13_init 17 = .ok (.ldc 11, 2) := by decide +kernel
theorem dX13_init_19 : decode cX13_init 19 = .ok (.aastore, 1) := by decide +kernel
theorem dX13_init_20 : decode cX13_init 20 = .ok (.dup, 1) := by decide +kernel
theorem dX13_init_21 : decode cX13_init 21 = .ok (.iconst 2, 1) := by decide +kernel
theorem dX13_init_22 : decode cX13_init 22 = .ok (.ldc 13, 2) := by decide +kernel
theorem dX13_init_24 : decode cX13_init 24 = .ok (.aastore, 1) := by decide +kernel
theorem dX13_init_25 : decode cX13_init 25 = .ok (.dup, 1) := by decide +kernel
theorem dX13_init_26 : decode cX13_init 26 = .ok (.iconst 3, 1) := by decide +kernel
theorem dX13_init_27 : decode cX13_init 27 = .ok (.ldc 15, 2) := by decide +kernel
theorem dX13_init_29 : decode cX13_init 29 = .ok (.aastore, 1) := by decide +kernel
theorem dX13_init_30 : decode cX13_init 30 = .ok (.dup, 1) := by decide +kernel
theorem dX13_init_31 : decode cX13_init 31 = .ok (.iconst 4, 1) := by decide +kernel
theorem dX13_init_32 : decode cX13_init 32 = .ok (.ldc 17, 2) := by decide +kernel
theorem dX13_init_34 : decode cX13_init 34 = .ok (.aastore, 1) := by decide +kernel
theorem dX13_init_35 : decode cX13_init 35 = .ok (.dup, 1) := by decide +kernel
theorem dX13_init_36 : decode cX13_init 36 = .ok (.iconst 5, 1) := by decide +kernel
theorem dX13_init_37 : decode cX13_init 37 = .ok (.ldc 19, 2) := by decide +kernel
theorem dX13_init_39 : decode cX13_init 39 = .ok (.aastore, 1) := by decide +kernel
theorem dX13_init_40 : decode cX13_init 40 = .ok (.putfield 21, 3) := by decide +kernel
theorem dX13_init_43 : decode cX13_init 43 = .ok (.aload_n 0, 1) := by decide +kernel
theorem dX13_init_44 : decode cX13_init 44 = .ok (.iconst 5, 1) := by decide +kernel
theorem dX13_init_45 : decode cX13_init 45 = .ok (.anewarray 7, 3) := by decide +kernel
theorem dX13_init_48 : decode cX13_init 48 = .ok (.dup, 1) := by decide +kernel
theorem dX13_init_49 : decode cX13_init 49 = .ok (.iconst 0, 1) := by decide +kernel
theorem dX13_init_50 : decode cX13_init 50 = .ok (.ldc 27, 2) := by decide +kernel
theorem dX13_init_52 : decode cX13_init 52 = .ok (.aastore, 1) := by decide +kernel
theorem dX13_init_53 : decode cX13_init 53 = .ok (.dup, 1) := by decide +kernel
theorem dX13_init_54 : decode cX13_init 54 = .ok (.iconst 1, 1) := by decide +kernel
theorem dX13_init_55 : decode cX13_init 55 = .ok (.ldc 29, 2) := by decide +kernel
theorem dX13_init_57 : decode cX13_init 57 = .ok (.aastore, 1) := by decide +kernel
theorem dX13_init_58 : decode cX13_init 58 = .ok (.dup, 1) := by decide +kernel
theorem dX13_init_59 : decode cX13_init 59 = .ok (.iconst 2, 1) := by decide +kernel
theorem dX13_init_60 : decode cX13_init 60 = .ok (.ldc 31, 2) := by decide +kernel
theorem dX13_init_62 : decode cX13_init 62 = .ok (.aastore, 1) := by decide +kernel
theorem dX13_init_63 : decode cX13_init 63 = .ok (.dup, 1) := by decide +kernel
theorem dX13_init_64 : decode cX13_init 64 = .ok (.iconst 3, 1) := by decide +kernel
theorem dX13_init_65 : decode cX13_init 65 = .ok (.ldc 33, 2) := by decide +kernel
theorem dX13_init_67 : decode cX13_init 67 = .ok (.aastore, 1) := by decide +kernel
theorem dX13_init_68 : decode cX13_init 68 = .ok (.dup, 1) := by decide +kernel
theorem dX13_init_69 : decode cX13_init 69 = .ok (.iconst 4, 1) := by decide +kernel
theorem dX13_init_70 : decode cX13_init 70 = .ok (.ldc 35, 2) := by decide +kernel
theorem dX13_init_72 : decode cX13_init 72 = .ok (.aastore, 1) := by decide +kernel
theorem dX13_init_73 : decode cX13_init 73 = .ok (.putfield 37, 3) := by decide +kernel
theorem dX13_init_76 : decode cX13_init 76 = .ok (.aload_n 0, 1) := by decide +kernel
theorem dX13_init_77 : decode cX13_init 77 = .ok (.bipush 14, 2) := by decide +kernel
theorem dX13_init_79 : decode cX13_init 79 = .ok (.newarray .int, 2) := by decide +kernel
theorem dX13_init_81 : decode cX13_init 81 = .ok (.putfield 40, 3) := by decide +kernel
theorem dX13_init_84 : decode cX13_init 84 = .ok (.aload_n 0, 1) := by decide +kernel
theorem dX13_init_85 : decode cX13_init 85 = .ok (.bipush 8, 2) := by decide +kernel
theorem dX13_init_87 : decode cX13_init 87 = .ok (.newarray .int, 2) := by decide +kernel
theorem dX13_init_89 : decode cX13_init 89 = .ok (.putfield 44, 3) := by decide +kernel
theorem dX13_init_92 : decode cX13_init 92 = .ok (.aload_n 0, 1) := by decide +kernel
theorem dX13_init_93 : decode cX13_init 93 = .ok (.bipush 8, 2) := by decide +kernel
theorem dX13_init_95 : decode cX13_init 95 = .ok (.newarray .int, 2) := by decide +kernel
theorem dX13_init_97 : decode cX13_init 97 = .ok (.putfield 47, 3) := by decide +kernel
theorem dX13_init_100 : decode cX13_init 100 = .ok (.aload_n 0, 1) := by decide +kernel
theorem dX13_init_101 : decode cX13_init 101 = .ok (.bipush 8, 2) := by decide +kernel
theorem dX13_init_103 : decode cX13_init 103 = .ok (.newarray .int, 2) := by decide +kernel
theorem dX13_init_105 : decode cX13_init 105 = .ok (.putfield 50, 3) := by decide +kernel
theorem dX13_init_108 : decode cX13_init 108 = .ok (.aload_n 0, 1) := by decide +kernel
theorem dX13_init_109 : decode cX13_init 109 = .ok (.bipush 10, 2) := by decide +kernel
theorem dX13_init_111 : decode cX13_init 111 = .ok (.newarray .int, 2) := by decide +kernel
theorem dX13_init_113 : decode cX13_init 113 = .ok (.putfield 53, 3) := by decide +kernel
theorem dX13_init_116 : decode cX13_init 116 = .ok (.aload_n 0, 1) := by decide +kernel
theorem dX13_init_117 : decode cX13_init 117 = .ok (.bipush 10, 2) := by decide +kernel
theorem dX13_init_119 : decode cX13_init 119 = .ok (.newarray .int, 2) := by decide +kernel
theorem dX13_init_121 : decode cX13_init 121 = .ok (.putfield 56, 3) := by decide +kernel
theorem dX13_init_124 : decode cX13_init 124 = .ok (.aload_n 0, 1) := by decide +kernel
theorem dX13_init_125 : decode cX13_init 125 = .ok (.bipush 10, 2) := by decide +kernel
theorem dX13_init_127 : decode cX13_init 127 = .ok (.newarray .int, 2) := by decide +kernel
theorem dX13_init_129 : decode cX13_init 129 = .ok (.putfield 58, 3) := by decide +kernel
theorem dX13_init_132 : decode cX13_init 132 = .ok (.aload_n 0, 1) := by decide +kernel
theorem dX13_init_133 : decode cX13_init 133 = .ok (.bipush 10, 2) := by decide +kernel
theorem dX13_init_135 : decode cX13_init 135 = .ok (.newarray .int, 2) := by decide +kernel
theorem dX13_init_137 : decode cX13_init 137 = .ok (.putfield 61, 3) := by decide +kernel
theorem dX13_init_140 : decode cX13_init 140 = .ok (.aload_n 0, 1) := by decide +kernel
theorem dX13_init_141 : decode cX13_init 141 = .ok (.bipush 10, 2) := by decide +kernel
theorem dX13_init_143 : decode cX13_init 143 = .ok (.newarray .int, 2) := by decide +kernel
theorem dX13_init_145 : decode cX13_init 145 = .ok (.putfield 64, 3) := by decide +kernel
theorem dX13_init_148 : decode cX13_init 148 = .ok (.aload_n 0, 1) := by decide +kernel
theorem dX13_init_149 : decode cX13_init 149 = .ok (.bipush 24, 2) := by decide +kernel
theorem dX13_init_151 : decode cX13_init 151 = .ok (.newarray .int, 2) := by decide +kernel
theorem dX13_init_153 : decode cX13_init 153 = .ok (.putfield 66, 3) := by decide +kernel
theorem dX13_init_156 : decode cX13_init 156 = .ok (.aload_n 0, 1) := by decide +kernel
theorem dX13_init_157 : decode cX13_init 157 = .ok (.bipush 24, 2) := by decide +kernel
theorem dX13_init_159 : decode cX13_init 159 = .ok (.newarray .int, 2) := by decide +kernel
theorem dX13_init_161 : decode cX13_init 161 = .ok (.putfield 69, 3) := by decide +kernel
theorem dX13_init_164 : decode cX13_init 164 = .ok (.aload_n 0, 1) := by decide +kernel
theorem dX13_init_165 : decode cX13_init 165 = .ok (.bipush 24, 2) := by decide +kernel
theorem dX13_init_167 : decode cX13_init 167 = .ok (.newarray .int, 2) := by decide +kernel
theorem dX13_init_169 : decode cX13_init 169 = .ok (.putfield 72, 3) := by decide +kernel
theorem dX13_init_172 : decode cX13_init 172 = .ok (.aload_n 0, 1) := by decide +kernel
theorem dX13_init_173 : decode cX13_init 173 = .ok (.bipush 24, 2) := by decide +kernel
theorem dX13_init_175 : decode cX13_init 175 = .ok (.newarray .int, 2) := by decide +kernel
theorem dX13_init_177 : decode cX13_init 177 = .ok (.putfield 75, 3) := by decide +kernel
theorem dX13_init_180 : decode cX13_init 180 = .ok (.aload_n 0, 1) := by decide +kernel
theorem dX13_init_181 : decode cX13_init 181 = .ok (.bipush 24, 2) := by decide +kernel
theorem dX13_init_183 : decode cX13_init 183 = .ok (.newarray .int, 2) := by decide +kernel
theorem dX13_init_185 : decode cX13_init 185 = .ok (.putfield 78, 3) := by decide +kernel
theorem dX13_init_188 : decode cX13_init 188 = .ok (.aload_n 0, 1) := by decide +kernel
theorem dX13_init_189 : decode cX13_init 189 = .ok (.bipush 24, 2) := by decide +kernel
theorem dX13_init_191 : decode cX13_init 191 = .ok (.newarray .int, 2) := by decide +kernel
theorem dX13_init_193 : decode cX13_init 193 = .ok (.putfield 81, 3) := by decide +kernel
theorem dX13_init_196 : decode cX13_init 196 = .ok (.aload_n 0, 1) := by decide +kernel
theorem dX13_init_197 : decode cX13_init 197 = .ok (.bipush 24, 2) := by decide +kernel
theorem dX13_init_199 : decode cX13_init 199 = .ok (.newarray .int, 2) := by decide +kernel
theorem dX13_init_201 : decode cX13_init 201 = .ok (.putfield 84, 3) := by decide +kernel
theorem dX13_init_204 : decode cX13_init 204 = .ok (.aload_n 0, 1) := by decide +kernel
theorem dX13_init_205 : decode cX13_init 205 = .ok (.bipush 12, 2) := by decide +kernel
theorem dX13_init_207 : decode cX13_init 207 = .ok (.newarray .int, 2) := by decide +kernel
theorem dX13_init_209 : decode cX13_init 209 = .ok (.putfield 87, 3) := by decide +kernel
theorem dX13_init_212 : decode cX13_init 212 = .ok (.aload_n 0, 1) := by decide +kernel
theorem dX13_init_213 : decode cX13_init 213 = .ok (.bipush 12, 2) := by decide +kernel
theorem dX13_init_215 : decode cX13_init 215 = .ok (.newarray .int, 2) := by decide +kernel
theorem dX13_init_217 : decode cX13_init 217 = .ok (.putfield 90, 3) := by decide +kernel
theorem dX13_init_220 : decode cX13_init 220 = .ok (.aload_n 0, 1) := by decide +kernel
theorem dX13_init_221 : decode cX13_init 221 = .ok (.sipush 1400, 3) := by decide +kernel
theorem dX13_init_224 : decode cX13_init 224 = .ok (.newarray .int, 2) := by decide +kernel
theorem dX13_init_226 : decode cX13_init 226 = .ok (.putfield 93, 3) := by decide +kernel
theorem dX13_init_229 : decode cX13_init 229 = .ok (.aload_n 0, 1) := by decide +kernel
theorem dX13_init_230 : decode cX13_init 230 = .ok (.iconst 3, 1) := by decide +kernel
theorem dX13_init_231 : decode cX13_init 231 = .ok (.newarray .int, 2) := by decide +kernel
theorem dX13_init_233 : decode cX13_init 233 = .ok (.putfield 96, 3) := by decide +kernel
theorem dX13_init_236 : decode cX13_init 236 = .ok (.aload_n 0, 1) := by decide +kernel
theorem dX13_init_237 : decode cX13_init 237 = .ok (.sipush 700, 3) := by decide +kernel
theorem dX13_init_240 : decode cX13_init 240 = .ok (.newarray .int, 2) := by decide +kernel
theorem dX13_init_242 : decode cX13_init 242 = .ok (.putfield 99, 3) := by decide +kernel
theorem dX13_init_245 : decode cX13_init 245 = .ok (.aload_n 0, 1) := by decide +kernel
theorem dX13_init_246 : decode cX13_init 246 = .ok (.iconst (-1), 1) := by decide +kernel
theorem dX13_init_247 : decode cX13_init 247 = .ok (.putfield 102, 3) := by decide +kernel
theorem dX13_init_250 : decode cX13_init 250 = .ok (.aload_n 0, 1) := by decide +kernel
theorem dX13_init_251 : decode cX13_init 251 = .ok (.iconst 5, 1) := by decide +kernel
theorem dX13_init_252 : decode cX13_init 252 = .ok (.newarray .int, 2) := by decide +kernel
theorem dX13_init_254 : decode cX13_init 254 = .ok (.putfield 106, 3) := by decide +kernel
theorem dX13_init_257 : decode cX13_init 257 = .ok (.aload_n 0, 1) := by decide +kernel
theorem dX13_init_258 : decode cX13_init 258 = .ok (.bipush 64, 2) := by decide +kernel
theorem dX13_init_260 : decode cX13_init 260 = .ok (.newarray .int, 2) := by decide +kernel
theorem dX13_init_262 : decode cX13_init 262 = .ok (.putfield 109, 3) := by decide +kernel
theorem dX13_init_265 : decode cX13_init 265 = .ok (.aload_n 0, 1) := by decide +kernel
theorem dX13_init_266 : decode cX13_init 266 = .ok (.bipush 40, 2) := by decide +kernel
theorem dX13_init_268 : decode cX13_init 268 = .ok (.newarray .int, 2) := by decide +kernel
theorem dX13_init_270 : decode cX13_init 270 = .ok (.putfield 112, 3) := by decide +kernel
theorem dX13_init_273 : decode cX13_init 273 = .ok (.aload_n 0, 1) := by decide +kernel
theorem dX13_init_274 : decode cX13_init 274 = .ok (.bipush 40, 2) := by decide +kernel
theorem dX13_init_276 : decode cX13_init 276 = .ok (.newarray .int, 2) := by decide +kernel
theorem dX13_init_278 : decode cX13_init 278 = .ok (.putfield 115, 3) := by decide +kernel
theorem dX13_init_281 : decode cX13_init 281 = .ok (.aload_n 0, 1) := by decide +kernel
theorem dX13_init_282 : decode cX13_init 282 = .ok (.bipush 40, 2) := by decide +kernel
theorem dX13_init_284 : decode cX13_init 284 = .ok (.newarray .int, 2) := by decide +kernel
theorem dX13_init_286 : decode cX13_init 286 = .ok (.putfield 118, 3) := by decide +kernel
theorem dX13_init_289 : decode cX13_init 289 = .ok (.aload_n 0, 1) := by decide +kernel
theorem dX13_init_290 : decode cX13_init 290 = .ok (.bipush 12, 2) := by decide +kernel
theorem dX13_init_292 : decode cX13_init 292 = .ok (.newarray .int, 2) := by decide +kernel
theorem dX13_init_294 : decode cX13_init 294 = .ok (.putfield 121, 3) := by decide +kernel
theorem dX13_init_297 : decode cX13_init 297 = .ok (.aload_n 0, 1) := by decide +kernel
theorem dX13_init_298 : decode cX13_init 298 = .ok (.bipush 12, 2) := by decide +kernel
theorem dX13_init_300 : decode cX13_init 300 = .ok (.newarray .int, 2) := by decide +kernel
theorem dX13_init_302 : decode cX13_init 302 = .ok (.putfield 124, 3) := by decide +kernel
theorem dX13_init_305 : decode cX13_init 305 = .ok (.aload_n 0, 1) := by decide +kernel
theorem dX13_init_306 : decode cX13_init 306 = .ok (.bipush 12, 2) := by decide +kernel
theorem dX13_init_308 : decode cX13_init 308 = .ok (.newarray .int, 2) := by decide +kernel
theorem dX13_init_310 : decode cX13_init 310 = .ok (.putfield 127, 3) := by decide +kernel
theorem dX13_init_313 : decode cX13_init 313 = .ok (.aload_n 0, 1) := by decide +kernel
theorem dX13_init_314 : decode cX13_init 314 = .ok (.iconst (-1), 1) := by decide +kernel
theorem dX13_init_315 : decode cX13_init 315 = .ok (.putfield 130, 3) := by decide +kernel
theorem dX13_init_318 : decode cX13_init 318 = .ok (.aload_n 0, 1) := by decide +kernel
theorem dX13_init_319 : decode cX13_init 319 = .ok (.sipush 220, 3) := by decide +kernel
theorem dX13_init_322 : decode cX13_init 322 = .ok (.newarray .long, 2) := by decide +kernel
theorem dX13_init_324 : decode cX13_init 324 = .ok (.putfield 133, 3) := by decide +kernel
theorem dX13_init_327 : decode cX13_init 327 = .ok (.aload_n 0, 1) := by decide +kernel
theorem dX13_init_328 : decode cX13_init 328 = .ok (.sipush 220, 3) := by decide +kernel
theorem dX13_init_331 : decode cX13_init 331 = .ok (.newarray .long, 2) := by decide +kernel
theorem dX13_init_333 : decode cX13_init 333 = .ok (.putfield 137, 3) := by decide +kernel
theorem dX13_init_336 : decode cX13_init 336 = .ok (.aload_n 0, 1) := by decide +kernel
theorem dX13_init_337 : decode cX13_init 337 = .ok (.iconst 5, 1) := by decide +kernel
theorem dX13_init_338 : decode cX13_init 338 = .ok (.newarray .int, 2) := by decide +kernel
theorem dX13_init_340 : decode cX13_init 340 = .ok (.putfield 140, 3) := by decide +kernel
theorem dX13_init_343 : decode cX13_init 343 = .ok (.aload_n 0, 1) := by decide +kernel
theorem dX13_init_344 : decode cX13_init 344 = .ok (.iconst 4, 1) := by decide +kernel
theorem dX13_init_345 : decode cX13_init 345 = .ok (.newarray .int, 2) := by decide +kernel
theorem dX13_init_347 : decode cX13_init 347 = .ok (.putfield 143, 3) := by decide +kernel
theorem dX13_init_350 : decode cX13_init 350 = .ok (.aload_n 0, 1) := by decide +kernel
theorem dX13_init_351 : decode cX13_init 351 = .ok (.bipush 6, 2) := by decide +kernel
theorem dX13_init_353 : decode cX13_init 353 = .ok (.newarray .int, 2) := by decide +kernel
theorem dX13_init_355 : decode cX13_init 355 = .ok (.putfield 146, 3) := by decide +kernel
theorem dX13_init_358 : decode cX13_init 358 = .ok (.aload_n 0, 1) := by decide +kernel
theorem dX13_init_359 : decode cX13_init 359 = .ok (.bipush 6, 2) := by decide +kernel
theorem dX13_init_361 : decode cX13_init 361 = .ok (.newarray .int, 2) := by decide +kernel
theorem dX13_init_363 : decode cX13_init 363 = .ok (.putfield 149, 3) := by decide +kernel
theorem dX13_init_366 : decode cX13_init 366 = .ok (.aload_n 0, 1) := by decide +kernel
theorem dX13_init_367 : decode cX13_init 367 = .ok (.bipush 24, 2) := by decide +kernel
theorem dX13_init_369 : decode cX13_init 369 = .ok (.newarray .int, 2) := by decide +kernel
theorem dX13_init_371 : decode cX13_init 371 = .ok (.putfield 152, 3) := by decide +kernel
theorem dX13_init_374 : decode cX13_init 374 = .ok (.aload_n 0, 1) := by decide +kernel
theorem dX13_init_375 : decode cX13_init 375 = .ok (.bipush 40, 2) := by decide +kernel
theorem dX13_init_377 : decode cX13_init 377 = .ok (.newarray .int, 2) := by decide +kernel
theorem dX13_init_379 : decode cX13_init 379 = .ok (.putfield 155, 3) := by decide +kernel
theorem dX13_init_382 : decode cX13_init 382 = .ok (.aload_n 0, 1) := by decide +kernel
theorem dX13_init_383 : decode cX13_init 383 = .ok (.bipush 40, 2) := by decide +kernel
theorem dX13_init_385 : decode cX13_init 385 = .ok (.newarray .int, 2) := by decide +kernel
theorem dX13_init_387 : decode cX13_init 387 = .ok (.putfield 158, 3) := by decide +kernel
theorem dX13_init_390 : decode cX13_init 390 = .ok (.aload_n 0, 1) := by decide +kernel
theorem dX13_init_391 : decode cX13_init 391 = .ok (.bipush 40, 2) := by decide +kernel
theorem dX13_init_393 : decode cX13_init 393 = .ok (.newarray .int, 2) := by decide +kernel
theorem dX13_init_395 : decode cX13_init 395 = .ok (.putfield 161, 3) := by decide +kernel
theorem dX13_init_398 : decode cX13_init 398 = .ok (.aload_n 0, 1) := by decide +kernel
theorem dX13_init_399 : decode cX13_init 399 = .ok (.bipush 6, 2) := by decide +kernel
theorem dX13_init_401 : decode cX13_init 401 = .ok (.newarray .int, 2) := by decide +kernel
theorem dX13_init_403 : decode cX13_init 403 = .ok (.putfield 164, 3) := by decide +kernel
theorem dX13_init_406 : decode cX13_init 406 = .ok (.aload_n 0, 1) := by decide +kernel
theorem dX13_init_407 : decode cX13_init 407 = .ok (.bipush 6, 2) := by decide +kernel
theorem dX13_init_409 : decode cX13_init 409 = .ok (.newarray .int, 2) := by decide +kernel
theorem dX13_init_411 : decode cX13_init 411 = .ok (.putfield 167, 3) := by decide +kernel
theorem dX13_init_414 : decode cX13_init 414 = .ok (.aload_n 0, 1) := by decide +kernel
theorem dX13_init_415 : decode cX13_init 415 = .ok (.iconst 3, 1) := by decide +kernel
theorem dX13_init_416 : decode cX13_init 416 = .ok (.newarray .int, 2) := by decide +kernel
theorem dX13_init_418 : decode cX13_init 418 = .ok (.putfield 170, 3) := by decide +kernel
theorem dX13_init_421 : decode cX13_init 421 = .ok (.return_, 1) := by decide +kernel
theorem dX13_thrown_0 : decode cX13_thrown 0 = .ok (.aload_n 0, 1) := by decide +kernel
theorem dX13_thrown_1 : decode cX13_thrown 1 = .ok (.getfield 173, 3) := by decide +kernel
theorem dX13_thrown_4 : decode cX13_thrown 4 = .ok (.ireturn, 1) := by decide +kernel
theorem dX13_fail_0 : decode cX13_fail 0 = .ok (.aload_n 0, 1) := by decide +kernel
theorem dX13_fail_1 : decode cX13_fail 1 = .ok (.iload_n 1, 1) := by decide +kernel
theorem dX13_fail_2 : decode cX13_fail 2 = .ok (.putfield 173, 3) := by decide +kernel
theorem dX13_fail_5 : decode cX13_fail 5 = .ok (.iconst 0, 1) := by decide +kernel
theorem dX13_fail_6 : decode cX13_fail 6 = .ok (.ireturn, 1) := by decide +kernel
theorem dX13_isIn_0 : decode cX13_isIn 0 = .ok (.lload_n 0, 1) := by decide +kernel
theorem dX13_isIn_1 : decode cX13_isIn 1 = .ok (.lload_n 2, 1) := by decide +kernel
theorem dX13_isIn_2 : decode cX13_isIn 2 = .ok (.lcmp, 1) := by decide +kernel
theorem dX13_isIn_3 : decode cX13_isIn 3 = .ok (.ifCond .lt 14, 3) := by decide +kernel
theorem dX13_isIn_6 : decode cX13_isIn 6 = .ok (.lload_n 0, 1) := by decide +kernel
theorem dX13_isIn_7 : decode cX13_isIn 7 = .ok (.lload 4, 2) := by decide +kernel
theorem dX13_isIn_9 : decode cX13_isIn 9 = .ok (.lcmp, 1) := by decide +kernel
theorem dX13_isIn_10 : decode cX13_isIn 10 = .ok (.ifCond .gt 7, 3) := by decide +kernel
theorem dX13_isIn_13 : decode cX13_isIn 13 = .ok (.iconst 1, 1) := by decide +kernel
theorem dX13_isIn_14 : decode cX13_isIn 14 = .ok (.goto 4, 3) := by decide +kernel
theorem dX13_isIn_17 : decode cX13_isIn 17 = .ok (.iconst 0, 1) := by decide +kernel
theorem dX13_isIn_18 : decode cX13_isIn 18 = .ok (.ireturn, 1) := by decide +kernel
set_option maxRecDepth 20000 in
theorem ggX13_isPerson_X13_isIn : GoodIn wsX13_isPerson wsX13_isIn := goodIn_r _ [5] rfl (by decide +kernel)
set_option maxRecDepth 20000 in
theorem gX13_isPerson_X13_isIn : GoodIn wsX13_isPerson (va_wsS RX13 176 yX13_isIn wsX13_isIn) := goodIn_app (goodIn_of _ (by decide +kernel)) ggX13_isPerson_X13_isIn
theorem dX13_isPerson_0 : decode cX13_isPerson 0 = .ok (.iload_n 1, 1) := by decide +kernel
theorem dX13_isPerson_1 : decode cX13_isPerson 1 = .ok (.i2l, 1) := by decide +kernel
theorem dX13_isPerson_2 : decode cX13_isPerson 2 = .ok (.lconst 0, 1) := by decide +kernel
theorem dX13_isPerson_3 : decode cX13_isPerson 3 = .ok (.aload_n 0, 1) := by decide +kernel
theorem dX13_isPerson_4 : decode cX13_isPerson 4 = .ok (.getfield 40, 3) := by decide +kernel
theorem dX13_isPerson_7 : decode cX13_isPerson 7 = .ok (.iconst 0, 1) := by decide +kernel
theorem dX13_isPerson_8 : decode cX13_isPerson 8 = .ok (.iaload, 1) := by decide +kernel
theorem dX13_isPerson_9 : decode cX13_isPerson 9 = .ok (.iconst 1, 1) := by decide +kernel
theorem dX13_isPerson_10 : decode cX13_isPerson 10 = .ok (.isub, 1) := by decide +kernel
theorem dX13_isPerson_11 : decode cX13_isPerson 11 = .ok (.i2l, 1) := by decide +kernel
theorem dX13_isPerson_12 : decode cX13_isPerson 12 = .ok (.invokestatic 176, 3) := by decide +kernel
theorem dX13_isPerson_15 : decode cX13_isPerson 15 = .ok (.ireturn, 1) := by decide +kernel
set_option maxRecDepth 20000 in
theorem ggX13_isCase_X13_isIn : GoodIn wsX13_isCase wsX13_isIn := goodIn_r _ [5] rfl (by decide +kernel)
set_option maxRecDepth 20000 in
theorem gX13_isCase_X13_isIn : GoodIn wsX13_isCase (va_wsS RX13 176 yX13_isIn wsX13_isIn) := goodIn_app (goodIn_of _ (by decide +kernel)) ggX13_isCase_X13_isIn
theorem dX13_isCase_0 : decode cX13_isCase 0 = .ok (.iload_n 1, 1) := by decide +kernel
theorem dX13_isCase_1 : decode cX13_isCase 1 = .ok (.i2l, 1) := by decide +kernel
theorem dX13_isCase_2 : decode cX13_isCase 2 = .ok (.lconst 0, 1) := by decide +kernel
theorem dX13_isCase_3 : decode cX13_isCase 3 = .ok (.aload_n 0, 1) := by decide +kernel
theorem dX13_isCase_4 : decode cX13_isCase 4 = .ok (.getfield 40, 3) := by decide +kernel
theorem dX13_isCase_7 : decode cX13_isCase 7 = .ok (.iconst 1, 1) := by decide +kernel
theorem dX13_isCase_8 : decode cX13_isCase 8 = .ok (.iaload, 1) := by decide +kernel
theorem dX13_isCase_9 : decode cX13_isCase 9 = .ok (.iconst 1, 1) := by decide +kernel
theorem dX13_isCase_10 : decode cX13_isCase 10 = .ok (.isub, 1) := by decide +kernel
theorem dX13_isCase_11 : decode cX13_isCase 11 = .ok (.i2l, 1) := by decide +kernel
theorem dX13_isCase_12 : decode cX13_isCase 12 = .ok (.invokestatic 176, 3) := by decide +kernel
theorem dX13_isCase_15 : decode cX13_isCase 15 = .ok (.ireturn, 1) := by decide +kernel
set_option maxRecDepth 20000 in
theorem ggX13_isThing_X13_isIn : GoodIn wsX13_isThing wsX13_isIn := goodIn_r _ [5] rfl (by decide +kernel)
set_option maxRecDepth 20000 in
theorem gX13_isThing_X13_isIn : GoodIn wsX13_isThing (va_wsS RX13 176 yX13_isIn wsX13_isIn) := goodIn_app (goodIn_of _ (by decide +kernel)) ggX13_isThing_X13_isIn
theorem dX13_isThing_0 : decode cX13_isThing 0 = .ok (.iload_n 1, 1) := by decide +kernel
theorem dX13_isThing_1 : decode cX13_isThing 1 = .ok (.i2l, 1) := by decide +kernel
theorem dX13_isThing_2 : decode cX13_isThing 2 = .ok (.lconst 0, 1) := by decide +kernel
theorem dX13_isThing_3 : decode cX13_isThing 3 = .ok (.aload_n 0, 1) := by decide +kernel
theorem dX13_isThing_4 : decode cX13_isThing 4 = .ok (.getfield 40, 3) := by decide +kernel
theorem dX13_isThing_7 : decode cX13_isThing 7 = .ok (.iconst 2, 1) := by decide +kernel
theorem dX13_isThing_8 : decode cX13_isThing 8 = .ok (.iaload, 1) := by decide +kernel
theorem dX13_isThing_9 : decode cX13_isThing 9 = .ok (.iconst 1, 1) := by decide +kernel
theorem dX13_isThing_10 : decode cX13_isThing 10 = .ok (.isub, 1) := by decide +kernel
theorem dX13_isThing_11 : decode cX13_isThing 11 = .ok (.i2l, 1) := by decide +kernel
theorem dX13_isThing_12 : decode cX13_isThing 12 = .ok (.invokestatic 176, 3) := by decide +kernel
theorem dX13_isThing_15 : decode cX13_isThing 15 = .ok (.ireturn, 1) := by decide +kernel
theorem dX13_feed_0 : decode cX13_feed 0 = .ok (.aload_n 0, 1) := by decide +kernel
theorem dX13_feed_1 : decode cX13_feed 1 = .ok (.iconst 0, 1) := by decide +kernel
theorem dX13_feed_2 : decode cX13_feed 2 = .ok (.putfield 173, 3) := by decide +kernel
theorem dX13_feed_5 : decode cX13_feed 5 = .ok (.aload_n 0, 1) := by decide +kernel
theorem dX13_feed_6 : decode cX13_feed 6 = .ok (.getfield 180, 3) := by decide +kernel
theorem dX13_feed_9 : decode cX13_feed 9 = .ok (.bipush 20, 2) := by decide +kernel
theorem dX13_feed_11 : decode cX13_feed 11 = .ok (.iadd, 1) := by decide +kernel
theorem dX13_feed_12 : decode cX13_feed 12 = .ok (.sipush 700, 3) := by decide +kernel
theorem dX13_feed_15 : decode cX13_feed 15 = .ok (.if_icmp .le 5, 3) := by decide +kernel
theorem dX13_feed_18 : decode cX13_feed 18 = .ok (.iconst (-1), 1) := by decide +kernel
theorem dX13_feed_19 : decode cX13_feed 19 = .ok (.ireturn, 1) := by decide +kernel
theorem dX13_feed_20 : decode cX13_feed 20 = .ok (.iconst 0, 1) := by decide +kernel
theorem dX13_feed_21 : decode cX13_feed 21 = .ok (.istore 6, 2) := by decide +kernel
theorem dX13_feed_23 : decode cX13_feed 23 = .ok (.iload 6, 2) := by decide +kernel
theorem dX13_feed_25 : decode cX13_feed 25 = .ok (.bipush 20, 2) := by decide +kernel
theorem dX13_feed_27 : decode cX13_feed 27 = .ok (.if_icmp .ge 93, 3) := by decide +kernel
theorem dX13_feed_30 : decode cX13_feed 30 = .ok (.iload 6, 2) := by decide +kernel
theorem dX13_feed_32 : decode cX13_feed 32 = .ok (.iconst 4, 1) := by decide +kernel
theorem dX13_feed_33 : decode cX13_feed 33 = .ok (.if_icmp .ge 7, 3) := by decide +kernel
theorem dX13_feed_36 : decode cX13_feed 36 = .ok (.iload_n 1, 1) := by decide +kernel
theorem dX13_feed_37 : decode cX13_feed 37 = .ok (.goto 39, 3) := by decide +kernel
theorem dX13_feed_40 : decode cX13_feed 40 = .ok (.iload 6, 2) := by decide +kernel
theorem dX13_feed_42 : decode cX13_feed 42 = .ok (.bipush 8, 2) := by decide +kernel
theorem dX13_feed_44 : decode cX13_feed 44 = .ok (.if_icmp .ge 7, 3) := by decide +kernel
theorem dX13_feed_47 : decode cX13_feed 47 = .ok (.iload_n 2, 1) := by decide +kernel
theorem dX13_feed_48 : decode cX13_feed 48 = .ok (.goto 28, 3) := by decide +kernel
theorem dX13_feed_51 : decode cX13_feed 51 = .ok (.iload 6, 2) := by decide +kernel
theorem dX13_feed_53 : decode cX13_feed 53 = .ok (.bipush 12, 2) := by decide +kernel
theorem dX13_feed_55 : decode cX13_feed 55 = .ok (.if_icmp .ge 7, 3) := by decide +kernel
theorem dX13_feed_58 : decode cX13_feed 58 = .ok (.iload_n 3, 1) := by decide +kernel
theorem dX13_feed_59 : decode cX13_feed 59 = .ok (.goto 17, 3) := by decide +kernel
theorem dX13_feed_62 : decode cX13_feed 62 = .ok (.iload 6, 2) := by decide +kernel
theorem dX13_feed_64 : decode cX13_feed 64 = .ok (.bipush 16, 2) := by decide +kernel
theorem dX13_feed_66 : decode cX13_feed 66 = .ok (.if_icmp .ge 8, 3) := by decide +kernel
theorem dX13_feed_69 : decode cX13_feed 69 = .ok (.iload 4, 2) := by decide +kernel
theorem dX13_feed_71 : decode cX13_feed 71 = .ok (.goto 5, 3) := by decide +kernel
theorem dX13_feed_74 : decode cX13_feed 74 = .ok (.iload 5, 2) := by decide +kernel
theorem dX13_feed_76 : decode cX13_feed 76 = .ok (.istore 7, 2) := by decide +kernel
theorem dX13_feed_78 : decode cX13_feed 78 = .ok (.aload_n 0, 1) := by decide +kernel
theorem dX13_feed_79 : decode cX13_feed 79 = .ok (.getfield 99, 3) := by decide +kernel
theorem dX13_feed_82 : decode cX13_feed 82 = .ok (.aload_n 0, 1) := by decide +kernel
theorem dX13_feed_83 : decode cX13_feed 83 = .ok (.getfield 180, 3) := by decide +kernel
theorem dX13_feed_86 : decode cX13_feed 86 = .ok (.iload 7, 2) := by decide +kernel
theorem dX13_feed_88 : decode cX13_feed 88 = .ok (.bipush 24, 2) := by decide +kernel
theorem dX13_feed_90 : decode cX13_feed 90 = .ok (.bipush 8, 2) := by decide +kernel
theorem dX13_feed_92 : decode cX13_feed 92 = .ok (.iload 6, 2) := by decide +kernel
theorem dX13_feed_94 : decode cX13_feed 94 = .ok (.iconst 4, 1) := by decide +kernel
theorem dX13_feed_95 : decode cX13_feed 95 = .ok (.irem, 1) := by decide +kernel
theorem dX13_feed_96 : decode cX13_feed 96 = .ok (.imul, 1) := by decide +kernel
theorem dX13_feed_97 : decode cX13_feed 97 = .ok (.isub, 1) := by decide +kernel
theorem dX13_feed_98 : decode cX13_feed 98 = .ok (.ishr, 1) := by decide +kernel
theorem dX13_feed_99 : decode cX13_feed 99 = .ok (.sipush 255, 3) := by decide +kernel
theorem dX13_feed_102 : decode cX13_feed 102 = .ok (.iand, 1) := by decide +kernel
theorem dX13_feed_103 : decode cX13_feed 103 = .ok (.iastore, 1) := by decide +kernel
theorem dX13_feed_104 : decode cX13_feed 104 = .ok (.aload_n 0, 1) := by decide +kernel
theorem dX13_feed_105 : decode cX13_feed 105 = .ok (.dup, 1) := by decide +kernel
theorem dX13_feed_106 : decode cX13_feed 106 = .ok (.getfield 180, 3) := by decide +kernel
theorem dX13_feed_109 : decode cX13_feed 109 = .ok (.iconst 1, 1) := by decide +kernel
theorem dX13_feed_110 : decode cX13_feed 110 = .ok (.iadd, 1) := by decide +kernel
theorem dX13_feed_111 : decode cX13_feed 111 = .ok (.putfield 180, 3) := by decide +kernel
theorem dX13_feed_114 : decode cX13_feed 114 = .ok (.iinc 6 1, 3) := by decide +kernel
theorem dX13_feed_117 : decode cX13_feed 117 = .ok (.goto (-94), 3) := by decide +kernel
theorem dX13_feed_120 : decode cX13_feed 120 = .ok (.aload_n 0, 1) := by decide +kernel
theorem dX13_feed_121 : decode cX13_feed 121 = .ok (.getfield 180, 3) := by decide +kernel
theorem dX13_feed_124 : decode cX13_feed 124 = .ok (.ireturn, 1) := by decide +kernel
theorem dX13_byteAt_0 : decode cX13_byteAt 0 = .ok (.iload_n 1, 1) := by decide +kernel
theorem dX13_byteAt_1 : decode cX13_byteAt 1 = .ok (.aload_n 0, 1) := by decide +kernel
theorem dX13_byteAt_2 : decode cX13_byteAt 2 = .ok (.getfield 183, 3) := by decide +kernel
theorem dX13_byteAt_5 : decode cX13_byteAt 5 = .ok (.if_icmp .ge 12, 3) := by decide +kernel
theorem dX13_byteAt_8 : decode cX13_byteAt 8 = .ok (.aload_n 0, 1) := by decide +kernel
theorem dX13_byteAt_9 : decode cX13_byteAt 9 = .ok (.getfield 99, 3) := by decide +kernel
theorem dX13_byteAt_12 : decode cX13_byteAt 12 = .ok (.iload_n 1, 1) := by decide +kernel
theorem dX13_byteAt_13 : decode cX13_byteAt 13 = .ok (.iaload, 1) := by decide +kernel
theorem dX13_byteAt_14 : decode cX13_byteAt 14 = .ok (.goto 4, 3) := by decide +kernel
theorem dX13_byteAt_17 : decode cX13_byteAt 17 = .ok (.iconst (-1), 1) := by decide +kernel
theorem dX13_byteAt_18 : decode cX13_byteAt 18 = .ok (.ireturn, 1) := by decide +kernel
theorem dX13_isLetter_0 : decode cX13_isLetter 0 = .ok (.iload_n 0, 1) := by decide +kernel
theorem dX13_isLetter_1 : decode cX13_isLetter 1 = .ok (.bipush 97, 2) := by decide +kernel
theorem dX13_isLetter_3 : decode cX13_isLetter 3 = .ok (.if_icmp .lt 13, 3) := by decide +kernel
theorem dX13_isLetter_6 : decode cX13_isLetter 6 = .ok (.iload_n 0, 1) := by decide +kernel
theorem dX13_isLetter_7 : decode cX13_isLetter 7 = .ok (.bipush 122, 2) := by decide +kernel
theorem dX13_isLetter_9 : decode cX13_isLetter 9 = .ok (.if_icmp .gt 7, 3) := by decide +kernel
theorem dX13_isLetter_12 : decode cX13_isLetter 12 = .ok (.iconst 1, 1) := by decide +kernel
theorem dX13_isLetter_13 : decode cX13_isLetter 13 = .ok (.goto 4, 3) := by decide +kernel
theorem dX13_isLetter_16 : decode cX13_isLetter 16 = .ok (.iconst 0, 1) := by decide +kernel
theorem dX13_isLetter_17 : decode cX13_isLetter 17 = .ok (.ireturn, 1) := by decide +kernel
theorem dX13_isDigit_0 : decode cX13_isDigit 0 = .ok (.iload_n 0, 1) := by decide +kernel
theorem dX13_isDigit_1 : decode cX13_isDigit 1 = .ok (.bipush 48, 2) := by decide +kernel
theorem dX13_isDigit_3 : decode cX13_isDigit 3 = .ok (.if_icmp .lt 13, 3) := by decide +kernel
theorem dX13_isDigit_6 : decode cX13_isDigit 6 = .ok (.iload_n 0, 1) := by decide +kernel
theorem dX13_isDigit_7 : decode cX13_isDigit 7 = .ok (.bipush 57, 2) := by decide +kernel
theorem dX13_isDigit_9 : decode cX13_isDigit 9 = .ok (.if_icmp .gt 7, 3) := by decide +kernel
theorem dX13_isDigit_12 : decode cX13_isDigit 12 = .ok (.iconst 1, 1) := by decide +kernel
theorem dX13_isDigit_13 : decode cX13_isDigit 13 = .ok (.goto 4, 3) := by decide +kernel
theorem dX13_isDigit_16 : decode cX13_isDigit 16 = .ok (.iconst 0, 1) := by decide +kernel
theorem dX13_isDigit_17 : decode cX13_isDigit 17 = .ok (.ireturn, 1) := by decide +kernel
theorem dX13_isMark_0 : decode cX13_isMark 0 = .ok (.iload_n 0, 1) := by decide +kernel
theorem dX13_isMark_1 : decode cX13_isMark 1 = .ok (.bipush 59, 2) := by decide +kernel
theorem dX13_isMark_3 : decode cX13_isMark 3 = .ok (.if_icmp .eq 51, 3) := by decide +kernel
theorem dX13_isMark_6 : decode cX13_isMark 6 = .ok (.iload_n 0, 1) := by decide +kernel
theorem dX13_isMark_7 : decode cX13_isMark 7 = .ok (.bipush 40, 2) := by decide +kernel
theorem dX13_isMark_9 : decode cX13_isMark 9 = .ok (.if_icmp .eq 45, 3) := by decide +kernel
theorem dX13_isMark_12 : decode cX13_isMark 12 = .ok (.iload_n 0, 1) := by decide +kernel
theorem dX13_isMark_13 : decode cX13_isMark 13 = .ok (.bipush 41, 2) := by decide +kernel
theorem dX13_isMark_15 : decode cX13_isMark 15 = .ok (.if_icmp .eq 39, 3) := by decide +kernel
theorem dX13_isMark_18 : decode cX13_isMark 18 = .ok (.iload_n 0, 1) := by decide +kernel
theorem dX13_isMark_19 : decode cX13_isMark 19 = .ok (.bipush 43, 2) := by decide +kernel
theorem dX13_isMark_21 : decode cX13_isMark 21 = .ok (.if_icmp .eq 33, 3) := by decide +kernel
theorem dX13_isMark_24 : decode cX13_isMark 24 = .ok (.iload_n 0, 1) := by decide +kernel
theorem dX13_isMark_25 : decode cX13_isMark 25 = .ok (.bipush 45, 2) := by decide +kernel
theorem dX13_isMark_27 : decode cX13_isMark 27 = .ok (.if_icmp .eq 27, 3) := by decide +kernel
theorem dX13_isMark_30 : decode cX13_isMark 30 = .ok (.iload_n 0, 1) := by decide +kernel
theorem dX13_isMark_31 : decode cX13_isMark 31 = .ok (.bipush 42, 2) := by decide +kernel
theorem dX13_isMark_33 : decode cX13_isMark 33 = .ok (.if_icmp .eq 21, 3) := by decide +kernel
theorem dX13_isMark_36 : decode cX13_isMark 36 = .ok (.iload_n 0, 1) := by decide +kernel
theorem dX13_isMark_37 : decode cX13_isMark 37 = .ok (.bipush 47, 2) := by decide +kernel
theorem dX13_isMark_39 : decode cX13_isMark 39 = .ok (.if_icmp .eq 15, 3) := by decide +kernel
theorem dX13_isMark_42 : decode cX13_isMark 42 = .ok (.iload_n 0, 1) := by decide +kernel
theorem dX13_isMark_43 : decode cX13_isMark 43 = .ok (.bipush 60, 2) := by decide +kernel
theorem dX13_isMark_45 : decode cX13_isMark 45 = .ok (.if_icmp .eq 9, 3) := by decide +kernel
theorem dX13_isMark_48 : decode cX13_isMark 48 = .ok (.iload_n 0, 1) := by decide +kernel
theorem dX13_isMark_49 : decode cX13_isMark 49 = .ok (.bipush 61, 2) := by decide +kernel
theorem dX13_isMark_51 : decode cX13_isMark 51 = .ok (.if_icmp .ne 7, 3) := by decide +kernel
theorem dX13_isMark_54 : decode cX13_isMark 54 = .ok (.iconst 1, 1) := by decide +kernel
theorem dX13_isMark_55 : decode cX13_isMark 55 = .ok (.goto 4, 3) := by decide +kernel
theorem dX13_isMark_58 : decode cX13_isMark 58 = .ok (.iconst 0, 1) := by decide +kernel
theorem dX13_isMark_59 : decode cX13_isMark 59 = .ok (.ireturn, 1) := by decide +kernel
set_option maxRecDepth 20000 in
theorem ggX13_stepOn_X13_byteAt : GoodIn wsX13_stepOn wsX13_byteAt := goodIn_r _ [15, 16, 17, 27, 28, 29, 30, 31, 32, 33, 34, 35, 36, 37, 38, 39, 40, 41, 42, 43, 44, 45, 46, 47, 48, 49, 50, 51, 52, 53, 54, 55, 56, 57, 58, 59, 60, 61, 62, 63, 64, 65, 66, 67, 68, 69, 70, 71, 72, 73, 74, 75, 76, 77, 78, 79, 80, 81, 82, 83, 84, 85, 86, 87, 88, 89, 90, 91, 92, 93] rfl (by decide +kernel)
set_option maxRecDepth 20000 in
theorem gX13_stepOn_X13_byteAt : GoodIn wsX13_stepOn (wsV RX13 189 RX13 yX13_byteAt wsX13_byteAt) := goodIn_app (goodIn_of _ (by decide +kernel)) ggX13_stepOn_X13_byteAt
set_option maxRecDepth 20000 in
theorem ggX13_stepOn_X13_isLetter : GoodIn wsX13_stepOn wsX13_isLetter := goodIn_r _ [20] rfl (by decide +kernel)
set_option maxRecDepth 20000 in
theorem gX13_stepOn_X13_isLetter : GoodIn wsX13_stepOn (va_wsS RX13 199 yX13_isLetter wsX13_isLetter) := goodIn_app (goodIn_of _ (by decide +kernel)) ggX13_stepOn_X13_isLetter
set_option maxRecDepth 20000 in
theorem ggX13_stepOn_X13_isDigit : GoodIn wsX13_stepOn wsX13_isDigit := goodIn_r _ [23] rfl (by decide +kernel)
set_option maxRecDepth 20000 in
theorem gX13_stepOn_X13_isDigit : GoodIn wsX13_stepOn (va_wsS RX13 203 yX13_isDigit wsX13_isDigit) := goodIn_app (goodIn_of _ (by decide +kernel)) ggX13_stepOn_X13_isDigit
set_option maxRecDepth 20000 in
theorem ggX13_stepOn_X13_isMark : GoodIn wsX13_stepOn wsX13_isMark := goodIn_r _ [26] rfl (by decide +kernel)
set_option maxRecDepth 20000 in
theorem gX13_stepOn_X13_isMark : GoodIn wsX13_stepOn (va_wsS RX13 216 yX13_isMark wsX13_isMark) := goodIn_app (goodIn_of _ (by decide +kernel)) ggX13_stepOn_X13_isMark
theorem dX13_stepOn_0 : decode cX13_stepOn 0 = .ok (.aload_n 0, 1) := by decide +kernel
theorem dX13_stepOn_1 : decode cX13_stepOn 1 = .ok (.aload_n 0, 1) := by decide +kernel
theorem dX13_stepOn_2 : decode cX13_stepOn 2 = .ok (.getfield 186, 3) := by decide +kernel
theorem dX13_stepOn_5 : decode cX13_stepOn 5 = .ok (.invokevirtual 189, 3) := by decide +kernel
theorem dX13_stepOn_8 : decode cX13_stepOn 8 = .ok (.bipush 32, 2) := by decide +kernel
theorem dX13_stepOn_10 : decode cX13_stepOn 10 = .ok (.if_icmp .eq 16, 3) := by decide +kernel
theorem dX13_stepOn_13 : decode cX13_stepOn 13 = .ok (.aload_n 0, 1) := by decide +kernel
theorem dX13_stepOn_14 : decode cX13_stepOn 14 = .ok (.aload_n 0, 1) := by decide +kernel
theorem dX13_stepOn_15 : decode cX13_stepOn 15 = .ok (.getfield 186, 3) := by decide +kernel
theorem dX13_stepOn_18 : decode cX13_stepOn 18 = .ok (.invokevirtual 189, 3) := by decide +kernel
theorem dX13_stepOn_21 : decode cX13_stepOn 21 = .ok (.bipush 10, 2) := by decide +kernel
theorem dX13_stepOn_23 : decode cX13_stepOn 23 = .ok (.if_icmp .ne 16, 3) := by decide +kernel
theorem dX13_stepOn_26 : decode cX13_stepOn 26 = .ok (.aload_n 0, 1) := by decide +kernel
theorem dX13_stepOn_27 : decode cX13_stepOn 27 = .ok (.dup, 1) := by decide +kernel
theorem dX13_stepOn_28 : decode cX13_stepOn 28 = .ok (.getfield 186, 3) := by decide +kernel
theorem dX13_stepOn_31 : decode cX13_stepOn 31 = .ok (.iconst 1, 1) := by decide +kernel
theorem dX13_stepOn_32 : decode cX13_stepOn 32 = .ok (.iadd, 1) := by decide +kernel
theorem dX13_stepOn_33 : decode cX13_stepOn 33 = .ok (.putfield 186, 3) := by decide +kernel
theorem dX13_stepOn_36 : decode cX13_stepOn 36 = .ok (.goto (-36), 3) := by decide +kernel
theorem dX13_stepOn_39 : decode cX13_stepOn 39 = .ok (.aload_n 0, 1) := by decide +kernel
theorem dX13_stepOn_40 : decode cX13_stepOn 40 = .ok (.aload_n 0, 1) := by decide +kernel
theorem dX13_stepOn_41 : decode cX13_stepOn 41 = .ok (.getfield 186, 3) := by decide +kernel
theorem dX13_stepOn_44 : decode cX13_stepOn 44 = .ok (.putfield 193, 3) := by decide +kernel
theorem dX13_stepOn_47 : decode cX13_stepOn 47 = .ok (.aload_n 0, 1) := by decide +kernel
theorem dX13_stepOn_48 : decode cX13_stepOn 48 = .ok (.aload_n 0, 1) := by decide +kernel
theorem dX13_stepOn_49 : decode cX13_stepOn 49 = .ok (.getfield 186, 3) := by decide +kernel
theorem dX13_stepOn_52 : decode cX13_stepOn 52 = .ok (.invokevirtual 189, 3) := by decide +kernel
theorem dX13_stepOn_55 : decode cX13_stepOn 55 = .ok (.istore_n 1, 1) := by decide +kernel
theorem dX13_stepOn_56 : decode cX13_stepOn 56 = .ok (.iload_n 1, 1) := by decide +kernel
theorem dX13_stepOn_57 : decode cX13_stepOn 57 = .ok (.iconst (-1), 1) := by decide +kernel
theorem dX13_stepOn_58 : decode cX13_stepOn 58 = .ok (.if_icmp .ne 11, 3) := by decide +kernel
theorem dX13_stepOn_61 : decode cX13_stepOn 61 = .ok (.aload_n 0, 1) := by decide +kernel
theorem dX13_stepOn_62 : decode cX13_stepOn 62 = .ok (.iconst 0, 1) := by decide +kernel
theorem dX13_stepOn_63 : decode cX13_stepOn 63 = .ok (.putfield 196, 3) := by decide +kernel
theorem dX13_stepOn_66 : decode cX13_stepOn 66 = .ok (.goto 146, 3) := by decide +kernel
theorem dX13_stepOn_69 : decode cX13_stepOn 69 = .ok (.iload_n 1, 1) := by decide +kernel
theorem dX13_stepOn_70 : decode cX13_stepOn 70 = .ok (.invokestatic 199, 3) := by decide +kernel
theorem dX13_stepOn_73 : decode cX13_stepOn 73 = .ok (.ifCond .eq 38, 3) := by decide +kernel
theorem dX13_stepOn_76 : decode cX13_stepOn 76 = .ok (.aload_n 0, 1) := by decide +kernel
theorem dX13_stepOn_77 : decode cX13_stepOn 77 = .ok (.aload_n 0, 1) := by decide +kernel
theorem dX13_stepOn_78 : decode cX13_stepOn 78 = .ok (.getfield 186, 3) := by decide +kernel
theorem dX13_stepOn_81 : decode cX13_stepOn 81 = .ok (.invokevirtual 189, 3) := by decide +kernel
theorem dX13_stepOn_84 : decode cX13_stepOn 84 = .ok (.invokestatic 199, 3) := by decide +kernel
theorem dX13_stepOn_87 : decode cX13_stepOn 87 = .ok (.ifCond .eq 16, 3) := by decide +kernel
theorem dX13_stepOn_90 : decode cX13_stepOn 90 = .ok (.aload_n 0, 1) := by decide +kernel
theorem dX13_stepOn_91 : decode cX13_stepOn 91 = .ok (.dup, 1) := by decide +kernel
theorem dX13_stepOn_92 : decode cX13_stepOn 92 = .ok (.getfield 186, 3) := by decide +kernel
theorem dX13_stepOn_95 : decode cX13_stepOn 95 = .ok (.iconst 1, 1) := by decide +kernel
theorem dX13_stepOn_96 : decode cX13_stepOn 96 = .ok (.iadd, 1) := by decide +kernel
theorem dX13_stepOn_97 : decode cX13_stepOn 97 = .ok (.putfield 186, 3) := by decide +kernel
theorem dX13_stepOn_100 : decode cX13_stepOn 100 = .ok (.goto (-24), 3) := by decide +kernel
theorem dX13_stepOn_103 : decode cX13_stepOn 103 = .ok (.aload_n 0, 1) := by decide +kernel
theorem dX13_stepOn_104 : decode cX13_stepOn 104 = .ok (.iconst 1, 1) := by decide +kernel
theorem dX13_stepOn_105 : decode cX13_stepOn 105 = .ok (.putfield 196, 3) := by decide +kernel
theorem dX13_stepOn_108 : decode cX13_stepOn 108 = .ok (.goto 104, 3) := by decide +kernel
theorem dX13_stepOn_111 : decode cX13_stepOn 111 = .ok (.iload_n 1, 1) := by decide +kernel
theorem dX13_stepOn_112 : decode cX13_stepOn 112 = .ok (.invokestatic 203, 3) := by decide +kernel
theorem dX13_stepOn_115 : decode cX13_stepOn 115 = .ok (.ifCond .eq 71, 3) := by decide +kernel
theorem dX13_stepOn_118 : decode cX13_stepOn 118 = .ok (.aload_n 0, 1) := by decide +kernel
theorem dX13_stepOn_119 : decode cX13_stepOn 119 = .ok (.iconst 0, 1) := by decide +kernel
theorem dX13_stepOn_120 : decode cX13_stepOn 120 = .ok (.putfield 206, 3) := by decide +kernel
theorem dX13_stepOn_123 : decode cX13_stepOn 123 = .ok (.aload_n 0, 1) := by decide +kernel
theorem dX13_stepOn_124 : decode cX13_stepOn 124 = .ok (.aload_n 0, 1) := by decide +kernel
theorem dX13_stepOn_125 : decode cX13_stepOn 125 = .ok (.getfield 186, 3) := by decide +kernel
theorem dX13_stepOn_128 : decode cX13_stepOn 128 = .ok (.invokevirtual 189, 3) := by decide +kernel
theorem dX13_stepOn_131 : decode cX13_stepOn 131 = .ok (.invokestatic 203, 3) := by decide +kernel
theorem dX13_stepOn_134 : decode cX13_stepOn 134 = .ok (.ifCond .eq 44, 3) := by decide +kernel
theorem dX13_stepOn_137 : decode cX13_stepOn 137 = .ok (.aload_n 0, 1) := by decide +kernel
theorem dX13_stepOn_138 : decode cX13_stepOn 138 = .ok (.ldc 209, 2) := by decide +kernel
theorem dX13_stepOn_140 : decode cX13_stepOn 140 = .ok (.bipush 10, 2) := by decide +kernel
theorem dX13_stepOn_142 : decode cX13_stepOn 142 = .ok (.aload_n 0, 1) := by decide +kernel
theorem dX13_stepOn_143 : decode cX13_stepOn 143 = .ok (.getfield 206, 3) := by decide +kernel
theorem dX13_stepOn_146 : decode cX13_stepOn 146 = .ok (.imul, 1) := by decide +kernel
theorem dX13_stepOn_147 : decode cX13_stepOn 147 = .ok (.aload_n 0, 1) := by decide +kernel
theorem dX13_stepOn_148 : decode cX13_stepOn 148 = .ok (.aload_n 0, 1) := by decide +kernel
theorem dX13_stepOn_149 : decode cX13_stepOn 149 = .ok (.getfield 186, 3) := by decide +kernel
theorem dX13_stepOn_152 : decode cX13_stepOn 152 = .ok (.invokevirtual 189, 3) := by decide +kernel
theorem dX13_stepOn_155 : decode cX13_stepOn 155 = .ok (.iadd, 1) := by decide +kernel
theorem dX13_stepOn_156 : decode cX13_stepOn 156 = .ok (.bipush 48, 2) := by decide +kernel
theorem dX13_stepOn_158 : decode cX13_stepOn 158 = .ok (.isub, 1) := by decide +kernel
theorem dX13_stepOn_159 : decode cX13_stepOn 159 = .ok (.invokestatic 210, 3) := by decide +kernel
theorem dX13_stepOn_162 : decode cX13_stepOn 162 = .ok (.putfield 206, 3) := by decide +kernel
theorem dX13_stepOn_165 : decode cX13_stepOn 165 = .ok (.aload_n 0, 1) := by decide +kernel
theorem dX13_stepOn_166 : decode cX13_stepOn 166 = .ok (.dup, 1) := by decide +kernel
theorem dX13_stepOn_167 : decode cX13_stepOn 167 = .ok (.getfield 186, 3) := by decide +kernel
theorem dX13_stepOn_170 : decode cX13_stepOn 170 = .ok (.iconst 1, 1) := by decide +kernel
theorem dX13_stepOn_171 : decode cX13_stepOn 171 = .ok (.iadd, 1) := by decide +kernel
theorem dX13_stepOn_172 : decode cX13_stepOn 172 = .ok (.putfield 186, 3) := by decide +kernel
theorem dX13_stepOn_175 : decode cX13_stepOn 175 = .ok (.goto (-52), 3) := by decide +kernel
theorem dX13_stepOn_178 : decode cX13_stepOn 178 = .ok (.aload_n 0, 1) := by decide +kernel
theorem dX13_stepOn_179 : decode cX13_stepOn 179 = .ok (.iconst 2, 1) := by decide +kernel
theorem dX13_stepOn_180 : decode cX13_stepOn 180 = .ok (.putfield 196, 3) := by decide +kernel
theorem dX13_stepOn_183 : decode cX13_stepOn 183 = .ok (.goto 29, 3) := by decide +kernel
theorem dX13_stepOn_186 : decode cX13_stepOn 186 = .ok (.aload_n 0, 1) := by decide +kernel
theorem dX13_stepOn_187 : decode cX13_stepOn 187 = .ok (.dup, 1) := by decide +kernel
theorem dX13_stepOn_188 : decode cX13_stepOn 188 = .ok (.getfield 186, 3) := by decide +kernel
theorem dX13_stepOn_191 : decode cX13_stepOn 191 = .ok (.iconst 1, 1) := by decide +kernel
theorem dX13_stepOn_192 : decode cX13_stepOn 192 = .ok (.iadd, 1) := by decide +kernel
theorem dX13_stepOn_193 : decode cX13_stepOn 193 = .ok (.putfield 186, 3) := by decide +kernel
theorem dX13_stepOn_196 : decode cX13_stepOn 196 = .ok (.aload_n 0, 1) := by decide +kernel
theorem dX13_stepOn_197 : decode cX13_stepOn 197 = .ok (.iload_n 1, 1) := by decide +kernel
theorem dX13_stepOn_198 : decode cX13_stepOn 198 = .ok (.invokestatic 216, 3) := by decide +kernel
theorem dX13_stepOn_201 : decode cX13_stepOn 201 = .ok (.ifCond .eq 7, 3) := by decide +kernel
theorem dX13_stepOn_204 : decode cX13_stepOn 204 = .ok (.iconst 3, 1) := by decide +kernel
theorem dX13_stepOn_205 : decode cX13_stepOn 205 = .ok (.goto 4, 3) := by decide +kernel
theorem dX13_stepOn_208 : decode cX13_stepOn 208 = .ok (.iconst 4, 1) := by decide +kernel
theorem dX13_stepOn_209 : decode cX13_stepOn 209 = .ok (.putfield 196, 3) := by decide +kernel
theorem dX13_stepOn_212 : decode cX13_stepOn 212 = .ok (.aload_n 0, 1) := by decide +kernel
theorem dX13_stepOn_213 : decode cX13_stepOn 213 = .ok (.aload_n 0, 1) := by decide +kernel
theorem dX13_stepOn_214 : decode cX13_stepOn 214 = .ok (.getfield 186, 3) := by decide +kernel
theorem dX13_stepOn_217 : decode cX13_stepOn 217 = .ok (.putfield 219, 3) := by decide +kernel
theorem dX13_stepOn_220 : decode cX13_stepOn 220 = .ok (.return_, 1) := by decide +kernel
theorem dX13_wrong_0 : decode cX13_wrong 0 = .ok (.aload_n 0, 1) := by decide +kernel
theorem dX13_wrong_1 : decode cX13_wrong 1 = .ok (.getfield 222, 3) := by decide +kernel
theorem dX13_wrong_4 : decode cX13_wrong 4 = .ok (.ifCond .eq 4, 3) := by decide +kernel
theorem dX13_wrong_7 : decode cX13_wrong 7 = .ok (.return_, 1) := by decide +kernel
theorem dX13_wrong_8 : decode cX13_wrong 8 = .ok (.aload_n 0, 1) := by decide +kernel
theorem dX13_wrong_9 : decode cX13_wrong 9 = .ok (.iload_n 1, 1) := by decide +kernel
theorem dX13_wrong_10 : decode cX13_wrong 10 = .ok (.putfield 222, 3) := by decide +kernel
theorem dX13_wrong_13 : decode cX13_wrong 13 = .ok (.aload_n 0, 1) := by decide +kernel
theorem dX13_wrong_14 : decode cX13_wrong 14 = .ok (.aload_n 0, 1) := by decide +kernel
theorem dX13_wrong_15 : decode cX13_wrong 15 = .ok (.getfield 193, 3) := by decide +kernel
theorem dX13_wrong_18 : decode cX13_wrong 18 = .ok (.putfield 225, 3) := by decide +kernel
theorem dX13_wrong_21 : decode cX13_wrong 21 = .ok (.return_, 1) := by decide +kernel
set_option maxRecDepth 20000 in
theorem ggX13_is_J0_length_8abf5 : GoodIn wsX13_is wsJ0_length_8abf5 := goodIn_r _ [10, 11, 12, 13, 14, 9, 15, 16, 17] rfl (by decide +kernel)
set_option maxRecDepth 20000 in
theorem gX13_is_J0_length_8abf5 : GoodIn wsX13_is (wsV RX13 228 RJ0 yJ0_length_8abf5 wsJ0_length_8abf5) := goodIn_app (goodIn_of _ (by decide +kernel)) ggX13_is_J0_length_8abf5
set_option maxRecDepth 20000 in
theorem ggX13_is_J0_charAt_5068e : GoodIn wsX13_is wsJ0_charAt_5068e := goodIn_r _ [21, 11, 22, 23, 24, 9, 25, 16, 17, 26, 27, 28, 29, 30, 31, 32, 33, 34, 35, 36, 37, 38, 39, 40, 41, 42, 43, 44, 45, 46, 47, 48, 49, 50, 51, 52, 53, 54] rfl (by decide +kernel)
set_option maxRecDepth 20000 in
theorem gX13_is_J0_charAt_5068e : GoodIn wsX13_is (wsV RX13 232 RJ0 yJ0_charAt_5068e wsJ0_charAt_5068e) := goodIn_app (goodIn_of _ (by decide +kernel)) ggX13_is_J0_charAt_5068e
theorem dX13_is_0 : decode cX13_is 0 = .ok (.aload_n 0, 1) := by decide +kernel
theorem dX13_is_1 : decode cX13_is 1 = .ok (.getfield 222, 3) := by decide +kernel
theorem dX13_is_4 : decode cX13_is 4 = .ok (.ifCond .ne 31, 3) := by decide +kernel
theorem dX13_is_7 : decode cX13_is 7 = .ok (.aload_n 0, 1) := by decide +kernel
theorem dX13_is_8 : decode cX13_is 8 = .ok (.getfield 196, 3) := by decide +kernel
theorem dX13_is_11 : decode cX13_is 11 = .ok (.iconst 1, 1) := by decide +kernel
theorem dX13_is_12 : decode cX13_is 12 = .ok (.if_icmp .ne 23, 3) := by decide +kernel
theorem dX13_is_15 : decode cX13_is 15 = .ok (.aload_n 1, 1) := by decide +kernel
theorem dX13_is_16 : decode cX13_is 16 = .ok (.invokevirtual 228, 3) := by decide +kernel
theorem dX13_is_19 : decode cX13_is 19 = .ok (.aload_n 0, 1) := by decide +kernel
theorem dX13_is_20 : decode cX13_is 20 = .ok (.getfield 219, 3) := by decide +kernel
theorem dX13_is_23 : decode cX13_is 23 = .ok (.aload_n 0, 1) := by decide +kernel
theorem dX13_is_24 : decode cX13_is 24 = .ok (.getfield 193, 3) := by decide +kernel
theorem dX13_is_27 : decode cX13_is 27 = .ok (.isub, 1) := by decide +kernel
theorem dX13_is_28 : decode cX13_is 28 = .ok (.if_icmp .ne 7, 3) := by decide +kernel
theorem dX13_is_31 : decode cX13_is 31 = .ok (.iconst 1, 1) := by decide +kernel
theorem dX13_is_32 : decode cX13_is 32 = .ok (.goto 4, 3) := by decide +kernel
theorem dX13_is_35 : decode cX13_is 35 = .ok (.iconst 0, 1) := by decide +kernel
theorem dX13_is_36 : decode cX13_is 36 = .ok (.istore_n 2, 1) := by decide +kernel
theorem dX13_is_37 : decode cX13_is 37 = .ok (.iconst 0, 1) := by decide +kernel
theorem dX13_is_38 : decode cX13_is 38 = .ok (.istore_n 3, 1) := by decide +kernel
theorem dX13_is_39 : decode cX13_is 39 = .ok (.iload_n 2, 1) := by decide +kernel
theorem dX13_is_40 : decode cX13_is 40 = .ok (.ifCond .eq 42, 3) := by decide +kernel
theorem dX13_is_43 : decode cX13_is 43 = .ok (.iload_n 3, 1) := by decide +kernel
theorem dX13_is_44 : decode cX13_is 44 = .ok (.aload_n 1, 1) := by decide +kernel
theorem dX13_is_45 : decode cX13_is 45 = .ok (.invokevirtual 228, 3) := by decide +kernel
theorem dX13_is_48 : decode cX13_is 48 = .ok (.if_icmp .ge 34, 3) := by decide +kernel
theorem dX13_is_51 : decode cX13_is 51 = .ok (.aload_n 1, 1) := by decide +kernel
theorem dX13_is_52 : decode cX13_is 52 = .ok (.iload_n 3, 1) := by decide +kernel
theorem dX13_is_53 : decode cX13_is 53 = .ok (.invokevirtual 232, 3) := by decide +kernel
theorem dX13_is_56 : decode cX13_is 56 = .ok (.aload_n 0, 1) := by decide +kernel
theorem dX13_is_57 : decode cX13_is 57 = .ok (.getfield 99, 3) := by decide +kernel
theorem dX13_is_60 : decode cX13_is 60 = .ok (.aload_n 0, 1) := by decide +kernel
theorem dX13_is_61 : decode cX13_is 61 = .ok (.getfield 193, 3) := by decide +kernel
theorem dX13_is_64 : decode cX13_is 64 = .ok (.iload_n 3, 1) := by decide +kernel
theorem dX13_is_65 : decode cX13_is 65 = .ok (.iadd, 1) := by decide +kernel
theorem dX13_is_66 : decode cX13_is 66 = .ok (.iaload, 1) := by decide +kernel
theorem dX13_is_67 : decode cX13_is 67 = .ok (.if_icmp .ne 7, 3) := by decide +kernel
theorem dX13_is_70 : decode cX13_is 70 = .ok (.iconst 1, 1) := by decide +kernel
theorem dX13_is_71 : decode cX13_is 71 = .ok (.goto 4, 3) := by decide +kernel
theorem dX13_is_74 : decode cX13_is 74 = .ok (.iconst 0, 1) := by decide +kernel
theorem dX13_is_75 : decode cX13_is 75 = .ok (.istore_n 2, 1) := by decide +kernel
theorem dX13_is_76 : decode cX13_is 76 = .ok (.iinc 3 1, 3) := by decide +kernel
theorem dX13_is_79 : decode cX13_is 79 = .ok (.goto (-40), 3) := by decide +kernel
theorem dX13_is_82 : decode cX13_is 82 = .ok (.iload_n 2, 1) := by decide +kernel
theorem dX13_is_83 : decode cX13_is 83 = .ok (.ireturn, 1) := by decide +kernel
set_option maxRecDepth 20000 in
theorem ggX13_which_X13_is : GoodIn wsX13_which wsX13_is := goodIn_r _ [5, 6, 7, 8, 9, 10, 11, 12, 13, 14, 15, 16, 17, 18, 19, 20, 21, 22, 23, 24, 25, 26, 27, 28, 29, 30, 31, 32, 33, 34, 35, 36, 37, 38, 39, 40, 41, 42, 43, 44, 45, 46, 47, 48, 49, 50, 51, 52, 53, 54, 55, 56, 57, 58, 59, 60, 61, 62, 63, 64, 65, 66, 67, 68, 69, 70, 71, 72, 73, 74, 75, 76, 77, 78, 79, 80, 81, 82, 83, 84, 85, 86, 87, 88, 89, 90, 91, 92, 93, 94, 95, 96, 97, 98, 99, 100, 101, 102, 103, 104, 105, 106, 107, 108, 109, 110, 111, 112, 113, 114, 115, 116, 117, 118, 119, 120, 121, 122, 123, 124, 125, 126] rfl (by decide +kernel)
set_option maxRecDepth 20000 in
theorem gX13_which_X13_is : GoodIn wsX13_which (wsV RX13 236 RX13 yX13_is wsX13_is) := goodIn_app (goodIn_of _ (by decide +kernel)) ggX13_which_X13_is
theorem dX13_which_0 : decode cX13_which 0 = .ok (.iconst 0, 1) := by decide +kernel
theorem dX13_which_1 : decode cX13_which 1 = .ok (.istore_n 2, 1) := by decide +kernel
theorem dX13_which_2 : decode cX13_which 2 = .ok (.iload_n 2, 1) := by decide +kernel
theorem dX13_which_3 : decode cX13_which 3 = .ok (.aload_n 1, 1) := by decide +kernel
theorem dX13_which_4 : decode cX13_which 4 = .ok (.arraylength, 1) := by decide +kernel
theorem dX13_which_5 : decode cX13_which 5 = .ok (.if_icmp .ge 21, 3) := by decide +kernel
theorem dX13_which_8 : decode cX13_which 8 = .ok (.aload_n 0, 1) := by decide +kernel
theorem dX13_which_9 : decode cX13_which 9 = .ok (.aload_n 1, 1) := by decide +kernel
theorem dX13_which_10 : decode cX13_which 10 = .ok (.iload_n 2, 1) := by decide +kernel
theorem dX13_which_11 : decode cX13_which 11 = .ok (.aaload, 1) := by decide +kernel
theorem dX13_which_12 : decode cX13_which 12 = .ok (.invokevirtual 236, 3) := by decide +kernel
theorem dX13_which_15 : decode cX13_which 15 = .ok (.ifCond .eq 5, 3) := by decide +kernel
theorem dX13_which_18 : decode cX13_which 18 = .ok (.iload_n 2, 1) := by decide +kernel
theorem dX13_which_19 : decode cX13_which 19 = .ok (.ireturn, 1) := by decide +kernel
theorem dX13_which_20 : decode cX13_which 20 = .ok (.iinc 2 1, 3) := by decide +kernel
theorem dX13_which_23 : decode cX13_which 23 = .ok (.goto (-21), 3) := by decide +kernel
theorem dX13_which_26 : decode cX13_which 26 = .ok (.iconst (-1), 1) := by decide +kernel
theorem dX13_which_27 : decode cX13_which 27 = .ok (.ireturn, 1) := by decide +kernel
theorem dX13_isMarked_0 : decode cX13_isMarked 0 = .ok (.aload_n 0, 1) := by decide +kernel
theorem dX13_isMarked_1 : decode cX13_isMarked 1 = .ok (.getfield 222, 3) := by decide +kernel
theorem dX13_isMarked_4 : decode cX13_isMarked 4 = .ok (.ifCond .ne 28, 3) := by decide +kernel
theorem dX13_isMarked_7 : decode cX13_isMarked 7 = .ok (.aload_n 0, 1) := by decide +kernel
theorem dX13_isMarked_8 : decode cX13_isMarked 8 = .ok (.getfield 196, 3) := by decide +kernel
theorem dX13_isMarked_11 : decode cX13_isMarked 11 = .ok (.iconst 3, 1) := by decide +kernel
theorem dX13_isMarked_12 : decode cX13_isMarked 12 = .ok (.if_icmp .ne 20, 3) := by decide +kernel
theorem dX13_isMarked_15 : decode cX13_isMarked 15 = .ok (.aload_n 0, 1) := by decide +kernel
theorem dX13_isMarked_16 : decode cX13_isMarked 16 = .ok (.getfield 99, 3) := by decide +kernel
theorem dX13_isMarked_19 : decode cX13_isMarked 19 = .ok (.aload_n 0, 1) := by decide +kernel
theorem dX13_isMarked_20 : decode cX13_isMarked 20 = .ok (.getfield 193, 3) := by decide +kernel
theorem dX13_isMarked_23 : decode cX13_isMarked 23 = .ok (.iaload, 1) := by decide +kernel
theorem dX13_isMarked_24 : decode cX13_isMarked 24 = .ok (.iload_n 1, 1) := by decide +kernel
theorem dX13_isMarked_25 : decode cX13_isMarked 25 = .ok (.if_icmp .ne 7, 3) := by decide +kernel
theorem dX13_isMarked_28 : decode cX13_isMarked 28 = .ok (.iconst 1, 1) := by decide +kernel
theorem dX13_isMarked_29 : decode cX13_isMarked 29 = .ok (.goto 4, 3) := by decide +kernel
theorem dX13_isMarked_32 : decode cX13_isMarked 32 = .ok (.iconst 0, 1) := by decide +kernel
theorem dX13_isMarked_33 : decode cX13_isMarked 33 = .ok (.ireturn, 1) := by decide +kernel
set_option maxRecDepth 20000 in
theorem ggX13_mark_X13_isMarked : GoodIn wsX13_mark wsX13_isMarked := goodIn_r _ [6, 1, 7, 8, 9, 41, 42, 43, 44, 45, 46, 47, 48, 49, 50, 51, 52, 53, 54, 55, 56, 57, 58, 59, 60, 61, 62, 63, 64, 65, 66, 67, 68, 69, 70, 71, 72, 73, 74, 75, 76, 77, 78, 79, 80, 81, 82, 83, 84, 85, 86, 87, 88, 89, 90, 91, 92, 93, 94, 95, 96, 97, 98, 99, 100, 101, 102, 103, 104, 105, 106, 107] rfl (by decide +kernel)
set_option maxRecDepth 20000 in
theorem gX13_mark_X13_isMarked : GoodIn wsX13_mark (wsV RX13 240 RX13 yX13_isMarked wsX13_isMarked) := goodIn_app (goodIn_of _ (by decide +kernel)) ggX13_mark_X13_isMarked
set_option maxRecDepth 20000 in
theorem ggX13_mark_X13_wrong : GoodIn wsX13_mark wsX13_wrong := goodIn_r _ [13, 1, 9, 14, 41, 42, 43, 44, 45, 46, 47, 48, 49, 50, 51, 52, 53, 54, 55, 56, 57, 58, 59, 60, 61, 62, 63, 64, 65, 66, 67, 68, 69, 70, 71, 72, 73, 74, 75, 76, 77, 78, 79, 80, 81, 82, 83, 84, 85, 86, 87, 88, 89, 90, 91, 92, 93, 94, 95, 96, 97, 98, 99, 100, 101, 102, 103, 104, 105, 106, 107] rfl (by decide +kernel)
set_option maxRecDepth 20000 in
theorem gX13_mark_X13_wrong : GoodIn wsX13_mark (wsV RX13 243 RX13 yX13_wrong wsX13_wrong) := goodIn_app (goodIn_of _ (by decide +kernel)) ggX13_mark_X13_wrong
set_option maxRecDepth 20000 in
theorem ggX13_mark_X13_stepOn : GoodIn wsX13_mark wsX13_stepOn := goodIn_r _ [18, 19, 9, 7, 20, 21, 22, 23, 24, 25, 26, 27, 28, 29, 5, 30, 31, 8, 32, 33, 34, 35, 36, 37, 38, 39, 40, 41, 42, 43, 44, 45, 46, 47, 48, 49, 50, 51, 52, 53, 54, 55, 56, 57, 58, 59, 60, 61, 62, 63, 64, 65, 66, 67, 68, 69, 70, 71, 72, 73, 74, 75, 76, 77, 78, 79, 80, 81, 82, 83, 84, 85, 86, 87, 88, 89, 90, 91, 92, 93, 94, 95, 96, 97, 98, 99, 100, 101, 102, 103, 104, 105, 106, 107] rfl (by decide +kernel)
set_option maxRecDepth 20000 in
theorem gX13_mark_X13_stepOn : GoodIn wsX13_mark (wsV RX13 247 RX13 yX13_stepOn wsX13_stepOn) := goodIn_app (goodIn_of _ (by decide +kernel)) ggX13_mark_X13_stepOn
theorem dX13_mark_0 : decode cX13_mark 0 = .ok (.aload_n 0, 1) := by decide +kernel
theorem dX13_mark_1 : decode cX13_mark 1 = .ok (.getfield 222, 3) := by decide +kernel
theorem dX13_mark_4 : decode cX13_mark 4 = .ok (.ifCond .ne 16, 3) := by decide +kernel
theorem dX13_mark_7 : decode cX13_mark 7 = .ok (.aload_n 0, 1) := by decide +kernel
theorem dX13_mark_8 : decode cX13_mark 8 = .ok (.iload_n 1, 1) := by decide +kernel
theorem dX13_mark_9 : decode cX13_mark 9 = .ok (.invokevirtual 240, 3) := by decide +kernel
theorem dX13_mark_12 : decode cX13_mark 12 = .ok (.ifCond .ne 8, 3) := by decide +kernel
theorem dX13_mark_15 : decode cX13_mark 15 = .ok (.aload_n 0, 1) := by decide +kernel
theorem dX13_mark_16 : decode cX13_mark 16 = .ok (.iconst 1, 1) := by decide +kernel
theorem dX13_mark_17 : decode cX13_mark 17 = .ok (.invokevirtual 243, 3) := by decide +kernel
theorem dX13_mark_20 : decode cX13_mark 20 = .ok (.aload_n 0, 1) := by decide +kernel
theorem dX13_mark_21 : decode cX13_mark 21 = .ok (.getfield 222, 3) := by decide +kernel
theorem dX13_mark_24 : decode cX13_mark 24 = .ok (.ifCond .ne 7, 3) := by decide +kernel
theorem dX13_mark_27 : decode cX13_mark 27 = .ok (.aload_n 0, 1) := by decide +kernel
theorem dX13_mark_28 : decode cX13_mark 28 = .ok (.invokevirtual 247, 3) := by decide +kernel
theorem dX13_mark_31 : decode cX13_mark 31 = .ok (.return_, 1) := by decide +kernel
set_option maxRecDepth 20000 in
theorem ggX13_numberNow_X13_wrong : GoodIn wsX13_numberNow wsX13_wrong := goodIn_r _ [10, 1, 4, 11, 12, 13, 14, 15, 16, 17, 18, 19, 20, 21, 22, 23, 24, 25, 26, 27, 28, 29, 30, 31, 32, 33, 34, 35, 36, 37, 38, 39, 40, 41, 42, 43, 44, 45, 46, 47, 48, 49, 50, 51, 52, 53, 54, 55, 56, 57, 58, 59, 60, 61, 62, 63, 64, 65, 66, 67, 68, 69, 70, 71, 72, 73, 74, 75, 76, 77, 78] rfl (by decide +kernel)
set_option maxRecDepth 20000 in
theorem gX13_numberNow_X13_wrong : GoodIn wsX13_numberNow (wsV RX13 243 RX13 yX13_wrong wsX13_wrong) := goodIn_app (goodIn_of _ (by decide +kernel)) ggX13_numberNow_X13_wrong
theorem dX13_numberNow_0 : decode cX13_numberNow 0 = .ok (.aload_n 0, 1) := by decide +kernel
theorem dX13_numberNow_1 : decode cX13_numberNow 1 = .ok (.getfield 222, 3) := by decide +kernel
theorem dX13_numberNow_4 : decode cX13_numberNow 4 = .ok (.ifCond .eq 5, 3) := by decide +kernel
theorem dX13_numberNow_7 : decode cX13_numberNow 7 = .ok (.iconst 0, 1) := by decide +kernel
theorem dX13_numberNow_8 : decode cX13_numberNow 8 = .ok (.ireturn, 1) := by decide +kernel
theorem dX13_numberNow_9 : decode cX13_numberNow 9 = .ok (.aload_n 0, 1) := by decide +kernel
theorem dX13_numberNow_10 : decode cX13_numberNow 10 = .ok (.getfield 196, 3) := by decide +kernel
theorem dX13_numberNow_13 : decode cX13_numberNow 13 = .ok (.iconst 2, 1) := by decide +kernel
theorem dX13_numberNow_14 : decode cX13_numberNow 14 = .ok (.if_icmp .eq 11, 3) := by decide +kernel
theorem dX13_numberNow_17 : decode cX13_numberNow 17 = .ok (.aload_n 0, 1) := by decide +kernel
theorem dX13_numberNow_18 : decode cX13_numberNow 18 = .ok (.iconst 1, 1) := by decide +kernel
theorem dX13_numberNow_19 : decode cX13_numberNow 19 = .ok (.invokevirtual 243, 3) := by decide +kernel
theorem dX13_numberNow_22 : decode cX13_numberNow 22 = .ok (.goto 37, 3) := by decide +kernel
theorem dX13_numberNow_25 : decode cX13_numberNow 25 = .ok (.aload_n 0, 1) := by decide +kernel
theorem dX13_numberNow_26 : decode cX13_numberNow 26 = .ok (.getfield 219, 3) := by decide +kernel
theorem dX13_numberNow_29 : decode cX13_numberNow 29 = .ok (.aload_n 0, 1) := by decide +kernel
theorem dX13_numberNow_30 : decode cX13_numberNow 30 = .ok (.getfield 193, 3) := by decide +kernel
theorem dX13_numberNow_33 : decode cX13_numberNow 33 = .ok (.isub, 1) := by decide +kernel
theorem dX13_numberNow_34 : decode cX13_numberNow 34 = .ok (.iconst 4, 1) := by decide +kernel
theorem dX13_numberNow_35 : decode cX13_numberNow 35 = .ok (.if_icmp .gt 19, 3) := by decide +kernel
theorem dX13_numberNow_38 : decode cX13_numberNow 38 = .ok (.aload_n 0, 1) := by decide +kernel
theorem dX13_numberNow_39 : decode cX13_numberNow 39 = .ok (.getfield 206, 3) := by decide +kernel
theorem dX13_numberNow_42 : decode cX13_numberNow 42 = .ok (.iload_n 1, 1) := by decide +kernel
theorem dX13_numberNow_43 : decode cX13_numberNow 43 = .ok (.if_icmp .lt 11, 3) := by decide +kernel
theorem dX13_numberNow_46 : decode cX13_numberNow 46 = .ok (.aload_n 0, 1) := by decide +kernel
theorem dX13_numberNow_47 : decode cX13_numberNow 47 = .ok (.getfield 206, 3) := by decide +kernel
theorem dX13_numberNow_50 : decode cX13_numberNow 50 = .ok (.iload_n 2, 1) := by decide +kernel
theorem dX13_numberNow_51 : decode cX13_numberNow 51 = .ok (.if_icmp .le 8, 3) := by decide +kernel
theorem dX13_numberNow_54 : decode cX13_numberNow 54 = .ok (.aload_n 0, 1) := by decide +kernel
theorem dX13_numberNow_55 : decode cX13_numberNow 55 = .ok (.iconst 2, 1) := by decide +kernel
theorem dX13_numberNow_56 : decode cX13_numberNow 56 = .ok (.invokevirtual 243, 3) := by decide +kernel
theorem dX13_numberNow_59 : decode cX13_numberNow 59 = .ok (.aload_n 0, 1) := by decide +kernel
theorem dX13_numberNow_60 : decode cX13_numberNow 60 = .ok (.getfield 222, 3) := by decide +kernel
theorem dX13_numberNow_63 : decode cX13_numberNow 63 = .ok (.ifCond .ne 10, 3) := by decide +kernel
theorem dX13_numberNow_66 : decode cX13_numberNow 66 = .ok (.aload_n 0, 1) := by decide +kernel
theorem dX13_numberNow_67 : decode cX13_numberNow 67 = .ok (.getfield 206, 3) := by decide +kernel
theorem dX13_numberNow_70 : decode cX13_numberNow 70 = .ok (.goto 4, 3) := by decide +kernel
theorem dX13_numberNow_73 : decode cX13_numberNow 73 = .ok (.iconst 0, 1) := by decide +kernel
theorem dX13_numberNow_74 : decode cX13_numberNow 74 = .ok (.ireturn, 1) := by decide +kernel
set_option maxRecDepth 20000 in
theorem ggX13_readNumber_X13_numberNow : GoodIn wsX13_readNumber wsX13_numberNow := goodIn_r _ [6, 1, 7, 8, 9, 10, 11, 12, 13, 5, 14, 15, 41, 42, 43, 44, 45, 46, 47, 48, 49, 50, 51, 52, 53, 54, 55, 56, 57, 58, 59, 60, 61, 62, 63, 64, 65, 66, 67, 68, 69, 70, 71, 72, 73, 74, 75, 76, 77, 78, 79, 80, 81, 82, 83, 84, 85, 86, 87, 88, 89, 90, 91, 92, 93, 94, 95, 96, 97, 98, 99, 100, 101, 102, 103, 104, 105, 106, 107] rfl (by decide +kernel)
set_option maxRecDepth 20000 in
theorem gX13_readNumber_X13_numberNow : GoodIn wsX13_readNumber (wsV RX13 250 RX13 yX13_numberNow wsX13_numberNow) := goodIn_app (goodIn_of _ (by decide +kernel)) ggX13_readNumber_X13_numberNow
set_option maxRecDepth 20000 in
theorem ggX13_readNumber_X13_stepOn : GoodIn wsX13_readNumber wsX13_stepOn := goodIn_r _ [19, 20, 9, 7, 10, 21, 22, 23, 24, 25, 8, 26, 27, 28, 5, 29, 30, 31, 32, 33, 34, 35, 36, 37, 38, 39, 40, 41, 42, 43, 44, 45, 46, 47, 48, 49, 50, 51, 52, 53, 54, 55, 56, 57, 58, 59, 60, 61, 62, 63, 64, 65, 66, 67, 68, 69, 70, 71, 72, 73, 74, 75, 76, 77, 78, 79, 80, 81, 82, 83, 84, 85, 86, 87, 88, 89, 90, 91, 92, 93, 94, 95, 96, 97, 98, 99, 100, 101, 102, 103, 104, 105, 106, 107] rfl (by decide +kernel)
set_option maxRecDepth 20000 in
theorem gX13_readNumber_X13_stepOn : GoodIn wsX13_readNumber (wsV RX13 247 RX13 yX13_stepOn wsX13_stepOn) := goodIn_app (goodIn_of _ (by decide +kernel)) ggX13_readNumber_X13_stepOn
theorem dX13_readNumber_0 : decode cX13_readNumber 0 = .ok (.aload_n 0, 1) := by decide +kernel
theorem dX13_readNumber_1 : decode cX13_readNumber 1 = .ok (.iload_n 1, 1) := by decide +kernel
theorem dX13_readNumber_2 : decode cX13_readNumber 2 = .ok (.iload_n 2, 1) := by decide +kernel
theorem dX13_readNumber_3 : decode cX13_readNumber 3 = .ok (.invokevirtual 250, 3) := by decide +kernel
theorem dX13_readNumber_6 : decode cX13_readNumber 6 = .ok (.istore_n 3, 1) := by decide +kernel
theorem dX13_readNumber_7 : decode cX13_readNumber 7 = .ok (.aload_n 0, 1) := by decide +kernel
theorem dX13_readNumber_8 : decode cX13_readNumber 8 = .ok (.getfield 222, 3) := by decide +kernel
theorem dX13_readNumber_11 : decode cX13_readNumber 11 = .ok (.ifCond .ne 7, 3) := by decide +kernel
theorem dX13_readNumber_14 : decode cX13_readNumber 14 = .ok (.aload_n 0, 1) := by decide +kernel
theorem dX13_readNumber_15 : decode cX13_readNumber 15 = .ok (.invokevirtual 247, 3) := by decide +kernel
theorem dX13_readNumber_18 : decode cX13_readNumber 18 = .ok (.iload_n 3, 1) := by decide +kernel
theorem dX13_readNumber_19 : decode cX13_readNumber 19 = .ok (.ireturn, 1) := by decide +kernel
set_option maxRecDepth 20000 in
theorem ggX13_oneOf_X13_numberNow : GoodIn wsX13_oneOf wsX13_numberNow := goodIn_r _ [6, 1, 7, 8, 9, 10, 11, 12, 13, 5, 14, 15, 16, 17, 18, 19, 20, 21, 22, 23, 24, 25, 26, 27, 28, 29, 30, 31, 32, 33, 34, 35, 36, 37, 38, 39, 40, 41, 42, 43, 44, 45, 46, 47, 48, 49, 50, 51, 52, 53, 54, 55, 56, 57, 58, 59, 60, 61, 62, 63, 64, 65, 66, 67, 68, 69, 70, 71, 72, 73, 74, 75, 76, 77, 78, 79, 80, 81, 82] rfl (by decide +kernel)
set_option maxRecDepth 20000 in
theorem gX13_oneOf_X13_numberNow : GoodIn wsX13_oneOf (wsV RX13 250 RX13 yX13_numberNow wsX13_numberNow) := goodIn_app (goodIn_of _ (by decide +kernel)) ggX13_oneOf_X13_numberNow
set_option maxRecDepth 20000 in
theorem ggX13_oneOf_X13_wrong : GoodIn wsX13_oneOf wsX13_wrong := goodIn_r _ [14, 1, 9, 15, 16, 17, 18, 19, 20, 21, 22, 23, 24, 25, 26, 27, 28, 29, 30, 31, 32, 33, 34, 35, 36, 37, 38, 39, 40, 41, 42, 43, 44, 45, 46, 47, 48, 49, 50, 51, 52, 53, 54, 55, 56, 57, 58, 59, 60, 61, 62, 63, 64, 65, 66, 67, 68, 69, 70, 71, 72, 73, 74, 75, 76, 77, 78, 79, 80, 81, 82] rfl (by decide +kernel)
set_option maxRecDepth 20000 in
theorem gX13_oneOf_X13_wrong : GoodIn wsX13_oneOf (wsV RX13 243 RX13 yX13_wrong wsX13_wrong) := goodIn_app (goodIn_of _ (by decide +kernel)) ggX13_oneOf_X13_wrong
theorem dX13_oneOf_0 : decode cX13_oneOf 0 = .ok (.aload_n 0, 1) := by decide +kernel
theorem dX13_oneOf_1 : decode cX13_oneOf 1 = .ok (.iconst 0, 1) := by decide +kernel
theorem dX13_oneOf_2 : decode cX13_oneOf 2 = .ok (.sipush 9999, 3) := by decide +kernel
theorem dX13_oneOf_5 : decode cX13_oneOf 5 = .ok (.invokevirtual 250, 3) := by decide +kernel
theorem dX13_oneOf_8 : decode cX13_oneOf 8 = .ok (.istore_n 2, 1) := by decide +kernel
theorem dX13_oneOf_9 : decode cX13_oneOf 9 = .ok (.aload_n 0, 1) := by decide +kernel
theorem dX13_oneOf_10 : decode cX13_oneOf 10 = .ok (.getfield 222, 3) := by decide +kernel
theorem dX13_oneOf_13 : decode cX13_oneOf 13 = .ok (.ifCond .ne 13, 3) := by decide +kernel
theorem dX13_oneOf_16 : decode cX13_oneOf 16 = .ok (.iload_n 2, 1) := by decide +kernel
theorem dX13_oneOf_17 : decode cX13_oneOf 17 = .ok (.iload_n 1, 1) := by decide +kernel
theorem dX13_oneOf_18 : decode cX13_oneOf 18 = .ok (.if_icmp .lt 8, 3) := by decide +kernel
theorem dX13_oneOf_21 : decode cX13_oneOf 21 = .ok (.aload_n 0, 1) := by decide +kernel
theorem dX13_oneOf_22 : decode cX13_oneOf 22 = .ok (.iconst 3, 1) := by decide +kernel
theorem dX13_oneOf_23 : decode cX13_oneOf 23 = .ok (.invokevirtual 243, 3) := by decide +kernel
theorem dX13_oneOf_26 : decode cX13_oneOf 26 = .ok (.aload_n 0, 1) := by decide +kernel
theorem dX13_oneOf_27 : decode cX13_oneOf 27 = .ok (.getfield 222, 3) := by decide +kernel
theorem dX13_oneOf_30 : decode cX13_oneOf 30 = .ok (.ifCond .ne 7, 3) := by decide +kernel
theorem dX13_oneOf_33 : decode cX13_oneOf 33 = .ok (.iload_n 2, 1) := by decide +kernel
theorem dX13_oneOf_34 : decode cX13_oneOf 34 = .ok (.goto 4, 3) := by decide +kernel
theorem dX13_oneOf_37 : decode cX13_oneOf 37 = .ok (.iconst 0, 1) := by decide +kernel
theorem dX13_oneOf_38 : decode cX13_oneOf 38 = .ok (.ireturn, 1) := by decide +kernel
theorem dX13_lay_0 : decode cX13_lay 0 = .ok (.aload_n 0, 1) := by decide +kernel
theorem dX13_lay_1 : decode cX13_lay 1 = .ok (.getfield 222, 3) := by decide +kernel
theorem dX13_lay_4 : decode cX13_lay 4 = .ok (.ifCond .eq 4, 3) := by decide +kernel
theorem dX13_lay_7 : decode cX13_lay 7 = .ok (.return_, 1) := by decide +kernel
theorem dX13_lay_8 : decode cX13_lay 8 = .ok (.aload_n 0, 1) := by decide +kernel
theorem dX13_lay_9 : decode cX13_lay 9 = .ok (.getfield 93, 3) := by decide +kernel
theorem dX13_lay_12 : decode cX13_lay 12 = .ok (.sipush 700, 3) := by decide +kernel
theorem dX13_lay_15 : decode cX13_lay 15 = .ok (.aload_n 0, 1) := by decide +kernel
theorem dX13_lay_16 : decode cX13_lay 16 = .ok (.getfield 40, 3) := by decide +kernel
theorem dX13_lay_19 : decode cX13_lay 19 = .ok (.bipush 13, 2) := by decide +kernel
theorem dX13_lay_21 : decode cX13_lay 21 = .ok (.iaload, 1) := by decide +kernel
theorem dX13_lay_22 : decode cX13_lay 22 = .ok (.iadd, 1) := by decide +kernel
theorem dX13_lay_23 : decode cX13_lay 23 = .ok (.iload_n 1, 1) := by decide +kernel
theorem dX13_lay_24 : decode cX13_lay 24 = .ok (.iastore, 1) := by decide +kernel
theorem dX13_lay_25 : decode cX13_lay 25 = .ok (.aload_n 0, 1) := by decide +kernel
theorem dX13_lay_26 : decode cX13_lay 26 = .ok (.getfield 40, 3) := by decide +kernel
theorem dX13_lay_29 : decode cX13_lay 29 = .ok (.bipush 13, 2) := by decide +kernel
theorem dX13_lay_31 : decode cX13_lay 31 = .ok (.dup2, 1) := by decide +kernel
theorem dX13_lay_32 : decode cX13_lay 32 = .ok (.iaload, 1) := by decide +kernel
theorem dX13_lay_33 : decode cX13_lay 33 = .ok (.iconst 1, 1) := by decide +kernel
theorem dX13_lay_34 : decode cX13_lay 34 = .ok (.iadd, 1) := by decide +kernel
theorem dX13_lay_35 : decode cX13_lay 35 = .ok (.iastore, 1) := by decide +kernel
theorem dX13_lay_36 : decode cX13_lay 36 = .ok (.return_, 1) := by decide +kernel
set_option maxRecDepth 20000 in
theorem ggX13_readPart_X13_readNumber : GoodIn wsX13_readPart wsX13_readNumber := goodIn_r _ [8, 1, 9, 10, 11, 7, 12, 2, 13, 14, 15, 16, 17, 18, 19, 20, 21, 22, 23, 24, 25, 26, 27, 28, 29, 30, 31, 32, 33, 34, 35, 36, 37, 38, 39, 40, 41, 42, 43, 44, 45, 140, 141, 142, 143, 144, 145, 146, 147, 148, 149, 150, 151, 152, 153, 154, 155, 156, 157, 158, 159, 160, 161, 162, 163, 164, 165, 166, 167, 168, 169, 170, 171, 172, 173, 174, 175, 176, 177, 178, 179, 180, 181, 182, 183, 184, 185, 186, 187, 188, 189, 190, 191, 192, 193, 194, 195, 196, 197, 198, 199, 200, 201, 202, 203, 204, 205, 206] rfl (by decide +kernel)
set_option maxRecDepth 20000 in
theorem gX13_readPart_X13_readNumber : GoodIn wsX13_readPart (wsV RX13 253 RX13 yX13_readNumber wsX13_readNumber) := goodIn_app (goodIn_of _ (by decide +kernel)) ggX13_readPart_X13_readNumber
set_option maxRecDepth 20000 in
theorem ggX13_readPart_X13_lay : GoodIn wsX13_readPart wsX13_lay := goodIn_r _ [49, 1, 50, 51, 140, 141, 142, 143, 144, 145, 146, 147, 148, 149, 150, 151, 152, 153, 154, 155, 156, 157, 158, 159, 160, 161, 162, 163, 164, 165, 166, 167, 168, 169, 170, 171, 172, 173, 174, 175, 176, 177, 178, 179, 180, 181, 182, 183, 184, 185, 186, 187, 188, 189, 190, 191, 192, 193, 194, 195, 196, 197, 198, 199, 200, 201, 202, 203, 204, 205, 206] rfl (by decide +kernel)
set_option maxRecDepth 20000 in
theorem gX13_readPart_X13_lay : GoodIn wsX13_readPart (wsV RX13 256 RX13 yX13_lay wsX13_lay) := goodIn_app (goodIn_of _ (by decide +kernel)) ggX13_readPart_X13_lay
set_option maxRecDepth 20000 in
theorem ggX13_readPart_X13_which : GoodIn wsX13_readPart wsX13_which := goodIn_r _ [55, 56, 57, 58, 7, 59, 1, 2, 13, 14, 36, 60, 61, 62, 63, 64, 65, 66, 67, 68, 69, 70, 71, 72, 73, 74, 75, 76, 77, 78, 79, 80, 81, 82, 83, 84, 85, 86, 87, 88, 89, 90, 91, 92, 93, 94, 95, 96, 97, 98, 99, 100, 101, 102, 103, 104, 105, 106, 107, 108, 140, 141, 142, 143, 144, 145, 146, 147, 148, 149, 150, 151, 152, 153, 154, 155, 156, 157, 158, 159, 160, 161, 162, 163, 164, 165, 166, 167, 168, 169, 170, 171, 172, 173, 174, 175, 176, 177, 178, 179, 180, 181, 182, 183, 184, 185, 186, 187, 188, 189, 190, 191, 192, 193, 194, 195, 196, 197, 198, 199, 200, 201, 202, 203, 204, 205, 206] rfl (by decide +kernel)
set_option maxRecDepth 20000 in
theorem gX13_readPart_X13_which : GoodIn wsX13_readPart (wsV RX13 259 RX13 yX13_which wsX13_which) := goodIn_app (goodIn_of _ (by decide +kernel)) ggX13_readPart_X13_which
set_option maxRecDepth 20000 in
theorem ggX13_readPart_X13_wrong : GoodIn wsX13_readPart wsX13_wrong := goodIn_r _ [19, 1, 14, 20, 140, 141, 142, 143, 144, 145, 146, 147, 148, 149, 150, 151, 152, 153, 154, 155, 156, 157, 158, 159, 160, 161, 162, 163, 164, 165, 166, 167, 168, 169, 170, 171, 172, 173, 174, 175, 176, 177, 178, 179, 180, 181, 182, 183, 184, 185, 186, 187, 188, 189, 190, 191, 192, 193, 194, 195, 196, 197, 198, 199, 200, 201, 202, 203, 204, 205, 206] rfl (by decide +kernel)
set_option maxRecDepth 20000 in
theorem gX13_readPart_X13_wrong : GoodIn wsX13_readPart (wsV RX13 243 RX13 yX13_wrong wsX13_wrong) := goodIn_app (goodIn_of _ (by decide +kernel)) ggX13_readPart_X13_wrong
set_option maxRecDepth 20000 in
theorem ggX13_readPart_X13_stepOn : GoodIn wsX13_readPart wsX13_stepOn := goodIn_r _ [24, 25, 14, 2, 15, 26, 27, 28, 29, 30, 13, 31, 32, 33, 7, 34, 35, 36, 37, 38, 39, 40, 41, 42, 43, 44, 45, 140, 141, 142, 143, 144, 145, 146, 147, 148, 149, 150, 151, 152, 153, 154, 155, 156, 157, 158, 159, 160, 161, 162, 163, 164, 165, 166, 167, 168, 169, 170, 171, 172, 173, 174, 175, 176, 177, 178, 179, 180, 181, 182, 183, 184, 185, 186, 187, 188, 189, 190, 191, 192, 193, 194, 195, 196, 197, 198, 199, 200, 201, 202, 203, 204, 205, 206] rfl (by decide +kernel)
set_option maxRecDepth 20000 in
theorem gX13_readPart_X13_stepOn : GoodIn wsX13_readPart (wsV RX13 247 RX13 yX13_stepOn wsX13_stepOn) := goodIn_app (goodIn_of _ (by decide +kernel)) ggX13_readPart_X13_stepOn
set_option maxRecDepth 20000 in
theorem ggX13_readPart_X13_mark : GoodIn wsX13_readPart wsX13_mark := goodIn_r _ [112, 1, 113, 114, 115, 7, 116, 2, 36, 14, 16, 17, 18, 19, 20, 21, 22, 23, 24, 25, 15, 26, 27, 28, 29, 30, 13, 31, 32, 33, 34, 35, 37, 38, 39, 40, 41, 42, 43, 44, 45, 140, 141, 142, 143, 144, 145, 146, 147, 148, 149, 150, 151, 152, 153, 154, 155, 156, 157, 158, 159, 160, 161, 162, 163, 164, 165, 166, 167, 168, 169, 170, 171, 172, 173, 174, 175, 176, 177, 178, 179, 180, 181, 182, 183, 184, 185, 186, 187, 188, 189, 190, 191, 192, 193, 194, 195, 196, 197, 198, 199, 200, 201, 202, 203, 204, 205, 206] rfl (by decide +kernel)
set_option maxRecDepth 20000 in
theorem gX13_readPart_X13_mark : GoodIn wsX13_readPart (wsV RX13 263 RX13 yX13_mark wsX13_mark) := goodIn_app (goodIn_of _ (by decide +kernel)) ggX13_readPart_X13_mark
set_option maxRecDepth 20000 in
theorem ggX13_readPart_X13_readExpression : GoodIn wsX13_readPart wsX13_readExpression := goodIn_r _ [124, 1, 2, 113, 114, 115, 7, 116, 36, 14, 16, 17, 18, 19, 20, 125, 126, 127, 56, 57, 58, 59, 13, 60, 61, 62, 63, 64, 65, 66, 67, 68, 69, 70, 71, 72, 73, 74, 75, 76, 77, 78, 79, 80, 81, 82, 83, 84, 85, 86, 87, 88, 89, 90, 91, 92, 93, 94, 95, 96, 97, 98, 99, 100, 101, 102, 103, 104, 105, 106, 107, 108, 21, 22, 23, 24, 25, 15, 26, 27, 28, 29, 30, 31, 32, 33, 34, 35, 37, 38, 39, 40, 41, 42, 43, 44, 45, 46, 47, 48, 49, 50, 51, 120, 121, 122, 123, 128, 129, 130, 131, 0, 3, 4, 5, 6, 8, 9, 10, 11, 12, 52, 53, 54, 55, 109, 110, 111, 112, 117, 118, 119, 132, 133, 134, 135, 136, 137, 138, 139, 140, 141, 142, 143, 144, 145, 146, 147, 148, 149, 150, 151, 152, 153, 154, 155, 156, 157, 158, 159, 160, 161, 162, 163, 164, 165, 166, 167, 168, 169, 170, 171, 172, 173, 174, 175, 176, 177, 178, 179, 180, 181, 182, 183, 184, 185, 186, 187, 188, 189, 190, 191, 192, 193, 194, 195, 196, 197, 198, 199, 200, 201, 202, 203, 204, 205, 206] rfl (by decide +kernel)
set_option maxRecDepth 20000 in
theorem gX13_readPart_X13_readExpression : GoodIn wsX13_readPart (wsV RX13 266 RX13 yX13_readExpression wsX13_readExpression) := goodIn_app (goodIn_of _ (by decide +kernel)) ggX13_readPart_X13_readExpression
theorem dX13_readPart_0 : decode cX13_readPart 0 = .ok (.aload_n 0, 1) := by decide +kernel
theorem dX13_readPart_1 : decode cX13_readPart 1 = .ok (.getfield 222, 3) := by decide +kernel
theorem dX13_readPart_4 : decode cX13_readPart 4 = .ok (.ifCond .eq 4, 3) := by decide +kernel
theorem dX13_readPart_7 : decode cX13_readPart 7 = .ok (.return_, 1) := by decide +kernel
theorem dX13_readPart_8 : decode cX13_readPart 8 = .ok (.aload_n 0, 1) := by decide +kernel
theorem dX13_readPart_9 : decode cX13_readPart 9 = .ok (.getfield 196, 3) := by decide +kernel
theorem dX13_readPart_12 : decode cX13_readPart 12 = .ok (.iconst 2, 1) := by decide +kernel
theorem dX13_readPart_13 : decode cX13_readPart 13 = .ok (.if_icmp .ne 16, 3) := by decide +kernel
theorem dX13_readPart_16 : decode cX13_readPart 16 = .ok (.aload_n 0, 1) := by decide +kernel
theorem dX13_readPart_17 : decode cX13_readPart 17 = .ok (.aload_n 0, 1) := by decide +kernel
theorem dX13_readPart_18 : decode cX13_readPart 18 = .ok (.iconst 0, 1) := by decide +kernel
theorem dX13_readPart_19 : decode cX13_readPart 19 = .ok (.sipush 9999, 3) := by decide +kernel
theorem dX13_readPart_22 : decode cX13_readPart 22 = .ok (.invokevirtual 253, 3) := by decide +kernel
theorem dX13_readPart_25 : decode cX13_readPart 25 = .ok (.invokevirtual 256, 3) := by decide +kernel
theorem dX13_readPart_28 : decode cX13_readPart 28 = .ok (.return_, 1) := by decide +kernel
theorem dX13_readPart_29 : decode cX13_readPart 29 = .ok (.aload_n 0, 1) := by decide +kernel
theorem dX13_readPart_30 : decode cX13_readPart 30 = .ok (.getfield 196, 3) := by decide +kernel
theorem dX13_readPart_33 : decode cX13_readPart 33 = .ok (.iconst 1, 1) := by decide +kernel
theorem dX13_readPart_34 : decode cX13_readPart 34 = .ok (.if_icmp .ne 41, 3) := by decide +kernel
theorem dX13_readPart_37 : decode cX13_readPart 37 = .ok (.aload_n 0, 1) := by decide +kernel
theorem dX13_readPart_38 : decode cX13_readPart 38 = .ok (.aload_n 0, 1) := by decide +kernel
theorem dX13_readPart_39 : decode cX13_readPart 39 = .ok (.getfield 37, 3) := by decide +kernel
theorem dX13_readPart_42 : decode cX13_readPart 42 = .ok (.invokevirtual 259, 3) := by decide +kernel
theorem dX13_readPart_45 : decode cX13_readPart 45 = .ok (.istore_n 2, 1) := by decide +kernel
theorem dX13_readPart_46 : decode cX13_readPart 46 = .ok (.iload_n 2, 1) := by decide +kernel
theorem dX13_readPart_47 : decode cX13_readPart 47 = .ok (.iconst (-1), 1) := by decide +kernel
theorem dX13_readPart_48 : decode cX13_readPart 48 = .ok (.if_icmp .ne 8, 3) := by decide +kernel
theorem dX13_readPart_51 : decode cX13_readPart 51 = .ok (.aload_n 0, 1) := by decide +kernel
theorem dX13_readPart_52 : decode cX13_readPart 52 = .ok (.iconst 3, 1) := by decide +kernel
theorem dX13_readPart_53 : decode cX13_readPart 53 = .ok (.invokevirtual 243, 3) := by decide +kernel
theorem dX13_readPart_56 : decode cX13_readPart 56 = .ok (.aload_n 0, 1) := by decide +kernel
theorem dX13_readPart_57 : decode cX13_readPart 57 = .ok (.iconst (-1), 1) := by decide +kernel
theorem dX13_readPart_58 : decode cX13_readPart 58 = .ok (.iload_n 2, 1) := by decide +kernel
theorem dX13_readPart_59 : decode cX13_readPart 59 = .ok (.isub, 1) := by decide +kernel
theorem dX13_readPart_60 : decode cX13_readPart 60 = .ok (.invokevirtual 256, 3) := by decide +kernel
theorem dX13_readPart_63 : decode cX13_readPart 63 = .ok (.aload_n 0, 1) := by decide +kernel
theorem dX13_readPart_64 : decode cX13_readPart 64 = .ok (.getfield 222, 3) := by decide +kernel
theorem dX13_readPart_67 : decode cX13_readPart 67 = .ok (.ifCond .ne 7, 3) := by decide +kernel
theorem dX13_readPart_70 : decode cX13_readPart 70 = .ok (.aload_n 0, 1) := by decide +kernel
theorem dX13_readPart_71 : decode cX13_readPart 71 = .ok (.invokevirtual 247, 3) := by decide +kernel
theorem dX13_readPart_74 : decode cX13_readPart 74 = .ok (.return_, 1) := by decide +kernel
theorem dX13_readPart_75 : decode cX13_readPart 75 = .ok (.aload_n 0, 1) := by decide +kernel
theorem dX13_readPart_76 : decode cX13_readPart 76 = .ok (.bipush 40, 2) := by decide +kernel
theorem dX13_readPart_78 : decode cX13_readPart 78 = .ok (.invokevirtual 263, 3) := by decide +kernel
theorem dX13_readPart_81 : decode cX13_readPart 81 = .ok (.aload_n 0, 1) := by decide +kernel
theorem dX13_readPart_82 : decode cX13_readPart 82 = .ok (.iload_n 1, 1) := by decide +kernel
theorem dX13_readPart_83 : decode cX13_readPart 83 = .ok (.iconst 1, 1) := by decide +kernel
theorem dX13_readPart_84 : decode cX13_readPart 84 = .ok (.iadd, 1) := by decide +kernel
theorem dX13_readPart_85 : decode cX13_readPart 85 = .ok (.invokevirtual 266, 3) := by decide +kernel
theorem dX13_readPart_88 : decode cX13_readPart 88 = .ok (.aload_n 0, 1) := by decide +kernel
theorem dX13_readPart_89 : decode cX13_readPart 89 = .ok (.bipush 41, 2) := by decide +kernel
theorem dX13_readPart_91 : decode cX13_readPart 91 = .ok (.invokevirtual 263, 3) := by decide +kernel
theorem dX13_readPart_94 : decode cX13_readPart 94 = .ok (.return_, 1) := by decide +kernel
set_option maxRecDepth 20000 in
theorem ggX13_readProduct_X13_readPart : GoodIn wsX13_readProduct wsX13_readPart := goodIn_r _ [115, 9, 10, 116, 117, 118, 119, 4, 120, 121, 122, 123, 124, 24, 12, 18, 103, 104, 105, 106, 107, 13, 14, 15, 16, 17, 19, 20, 21, 22, 23, 25, 26, 27, 28, 29, 11, 30, 31, 32, 33, 34, 35, 36, 37, 38, 39, 40, 41, 42, 43, 44, 125, 126, 127, 128, 49, 50, 51, 52, 53, 54, 55, 56, 57, 58, 59, 60, 61, 62, 63, 64, 65, 66, 67, 68, 69, 70, 71, 72, 73, 74, 75, 76, 77, 78, 79, 80, 81, 82, 83, 84, 85, 86, 87, 88, 89, 90, 91, 92, 93, 94, 95, 96, 97, 98, 99, 100, 101, 129, 130, 131, 132, 5, 6, 7, 8, 133, 134, 135, 45, 46, 47, 48, 102, 108, 109, 110, 111, 112, 113, 114, 0, 1, 2, 3, 136, 137, 138, 139, 140, 141, 142, 143, 144, 145, 146, 147, 148, 149, 150, 151, 152, 153, 154, 155, 156, 157, 158, 159, 160, 161, 162, 163, 164, 165, 166, 167, 168, 169, 170, 171, 172, 173, 174, 175, 176, 177, 178, 179, 180, 181, 182, 183, 184, 185, 186, 187, 188, 189, 190, 191, 192, 193, 194, 195, 196, 197, 198, 199, 200, 201, 202, 203, 204, 205, 206] rfl (by decide +kernel)
set_option maxRecDepth 20000 in
theorem gX13_readProduct_X13_readPart : GoodIn wsX13_readProduct (wsV RX13 269 RX13 yX13_readPart wsX13_readPart) := goodIn_app (goodIn_of _ (by decide +kernel)) ggX13_readProduct_X13_readPart
set_option maxRecDepth 20000 in
theorem ggX13_readProduct_X13_isMarked : GoodIn wsX13_readProduct wsX13_isMarked := goodIn_r _ [8, 9, 10, 11, 12, 140, 141, 142, 143, 144, 145, 146, 147, 148, 149, 150, 151, 152, 153, 154, 155, 156, 157, 158, 159, 160, 161, 162, 163, 164, 165, 166, 167, 168, 169, 170, 171, 172, 173, 174, 175, 176, 177, 178, 179, 180, 181, 182, 183, 184, 185, 186, 187, 188, 189, 190, 191, 192, 193, 194, 195, 196, 197, 198, 199, 200, 201, 202, 203, 204, 205, 206] rfl (by decide +kernel)
set_option maxRecDepth 20000 in
theorem gX13_readProduct_X13_isMarked : GoodIn wsX13_readProduct (wsV RX13 240 RX13 yX13_isMarked wsX13_isMarked) := goodIn_app (goodIn_of _ (by decide +kernel)) ggX13_readProduct_X13_isMarked
set_option maxRecDepth 20000 in
theorem ggX13_readProduct_X13_stepOn : GoodIn wsX13_readProduct wsX13_stepOn := goodIn_r _ [16, 17, 12, 10, 18, 19, 20, 21, 22, 23, 24, 25, 26, 27, 4, 28, 29, 11, 30, 31, 32, 33, 34, 35, 36, 37, 38, 140, 141, 142, 143, 144, 145, 146, 147, 148, 149, 150, 151, 152, 153, 154, 155, 156, 157, 158, 159, 160, 161, 162, 163, 164, 165, 166, 167, 168, 169, 170, 171, 172, 173, 174, 175, 176, 177, 178, 179, 180, 181, 182, 183, 184, 185, 186, 187, 188, 189, 190, 191, 192, 193, 194, 195, 196, 197, 198, 199, 200, 201, 202, 203, 204, 205, 206] rfl (by decide +kernel)
set_option maxRecDepth 20000 in
theorem gX13_readProduct_X13_stepOn : GoodIn wsX13_readProduct (wsV RX13 247 RX13 yX13_stepOn wsX13_stepOn) := goodIn_app (goodIn_of _ (by decide +kernel)) ggX13_readProduct_X13_stepOn
set_option maxRecDepth 20000 in
theorem ggX13_readProduct_X13_lay : GoodIn wsX13_readProduct wsX13_lay := goodIn_r _ [42, 9, 43, 44, 140, 141, 142, 143, 144, 145, 146, 147, 148, 149, 150, 151, 152, 153, 154, 155, 156, 157, 158, 159, 160, 161, 162, 163, 164, 165, 166, 167, 168, 169, 170, 171, 172, 173, 174, 175, 176, 177, 178, 179, 180, 181, 182, 183, 184, 185, 186, 187, 188, 189, 190, 191, 192, 193, 194, 195, 196, 197, 198, 199, 200, 201, 202, 203, 204, 205, 206] rfl (by decide +kernel)
set_option maxRecDepth 20000 in
theorem gX13_readProduct_X13_lay : GoodIn wsX13_readProduct (wsV RX13 256 RX13 yX13_lay wsX13_lay) := goodIn_app (goodIn_of _ (by decide +kernel)) ggX13_readProduct_X13_lay
theorem dX13_readProduct_0 : decode cX13_readProduct 0 = .ok (.aload_n 0, 1) := by decide +kernel
theorem dX13_readProduct_1 : decode cX13_readProduct 1 = .ok (.iload_n 1, 1) := by decide +kernel
theorem dX13_readProduct_2 : decode cX13_readProduct 2 = .ok (.invokevirtual 269, 3) := by decide +kernel
theorem dX13_readProduct_5 : decode cX13_readProduct 5 = .ok (.aload_n 0, 1) := by decide +kernel
theorem dX13_readProduct_6 : decode cX13_readProduct 6 = .ok (.bipush 42, 2) := by decide +kernel
theorem dX13_readProduct_8 : decode cX13_readProduct 8 = .ok (.invokevirtual 240, 3) := by decide +kernel
theorem dX13_readProduct_11 : decode cX13_readProduct 11 = .ok (.ifCond .ne 12, 3) := by decide +kernel
theorem dX13_readProduct_14 : decode cX13_readProduct 14 = .ok (.aload_n 0, 1) := by decide +kernel
theorem dX13_readProduct_15 : decode cX13_readProduct 15 = .ok (.bipush 47, 2) := by decide +kernel
theorem dX13_readProduct_17 : decode cX13_readProduct 17 = .ok (.invokevirtual 240, 3) := by decide +kernel
theorem dX13_readProduct_20 : decode cX13_readProduct 20 = .ok (.ifCond .eq 37, 3) := by decide +kernel
theorem dX13_readProduct_23 : decode cX13_readProduct 23 = .ok (.aload_n 0, 1) := by decide +kernel
theorem dX13_readProduct_24 : decode cX13_readProduct 24 = .ok (.bipush 42, 2) := by decide +kernel
theorem dX13_readProduct_26 : decode cX13_readProduct 26 = .ok (.invokevirtual 240, 3) := by decide +kernel
theorem dX13_readProduct_29 : decode cX13_readProduct 29 = .ok (.ifCond .eq 8, 3) := by decide +kernel
theorem dX13_readProduct_32 : decode cX13_readProduct 32 = .ok (.bipush (-22), 2) := by decide +kernel
theorem dX13_readProduct_34 : decode cX13_readProduct 34 = .ok (.goto 5, 3) := by decide +kernel
theorem dX13_readProduct_37 : decode cX13_readProduct 37 = .ok (.bipush (-23), 2) := by decide +kernel
theorem dX13_readProduct_39 : decode cX13_readProduct 39 = .ok (.istore_n 2, 1) := by decide +kernel
theorem dX13_readProduct_40 : decode cX13_readProduct 40 = .ok (.aload_n 0, 1) := by decide +kernel
theorem dX13_readProduct_41 : decode cX13_readProduct 41 = .ok (.invokevirtual 247, 3) := by decide +kernel
theorem dX13_readProduct_44 : decode cX13_readProduct 44 = .ok (.aload_n 0, 1) := by decide +kernel
theorem dX13_readProduct_45 : decode cX13_readProduct 45 = .ok (.iload_n 1, 1) := by decide +kernel
theorem dX13_readProduct_46 : decode cX13_readProduct 46 = .ok (.invokevirtual 269, 3) := by decide +kernel
theorem dX13_readProduct_49 : decode cX13_readProduct 49 = .ok (.aload_n 0, 1) := by decide +kernel
theorem dX13_readProduct_50 : decode cX13_readProduct 50 = .ok (.iload_n 2, 1) := by decide +kernel
theorem dX13_readProduct_51 : decode cX13_readProduct 51 = .ok (.invokevirtual 256, 3) := by decide +kernel
theorem dX13_readProduct_54 : decode cX13_readProduct 54 = .ok (.goto (-49), 3) := by decide +kernel
theorem dX13_readProduct_57 : decode cX13_readProduct 57 = .ok (.return_, 1) := by decide +kernel
set_option maxRecDepth 20000 in
theorem ggX13_readSum_X13_readProduct : GoodIn wsX13_readSum wsX13_readProduct := goodIn_r _ [136, 137, 138, 139, 4, 5, 6, 7, 8, 9, 10, 11, 12, 13, 14, 15, 16, 17, 18, 19, 20, 21, 22, 23, 24, 25, 26, 27, 28, 29, 30, 31, 32, 33, 34, 35, 36, 37, 38, 39, 40, 41, 42, 43, 44, 45, 46, 47, 48, 49, 50, 51, 52, 53, 54, 55, 56, 57, 58, 59, 60, 61, 62, 63, 64, 65, 66, 67, 68, 69, 70, 71, 72, 73, 74, 75, 76, 77, 78, 79, 80, 81, 82, 83, 84, 85, 86, 87, 88, 89, 90, 91, 92, 93, 94, 95, 96, 97, 98, 99, 100, 101, 102, 103, 104, 105, 106, 107, 108, 109, 110, 111, 112, 113, 114, 115, 116, 117, 118, 119, 120, 121, 122, 123, 124, 125, 126, 127, 128, 129, 130, 131, 132, 133, 134, 135, 0, 1, 2, 3, 140, 141, 142, 143, 144, 145, 146, 147, 148, 149, 150, 151, 152, 153, 154, 155, 156, 157, 158, 159, 160, 161, 162, 163, 164, 165, 166, 167, 168, 169, 170, 171, 172, 173, 174, 175, 176, 177, 178, 179, 180, 181, 182, 183, 184, 185, 186, 187, 188, 189, 190, 191, 192, 193, 194, 195, 196, 197, 198, 199, 200, 201, 202, 203, 204, 205, 206] rfl (by decide +kernel)
set_option maxRecDepth 20000 in
theorem gX13_readSum_X13_readProduct : GoodIn wsX13_readSum (wsV RX13 272 RX13 yX13_readProduct wsX13_readProduct) := goodIn_app (goodIn_of _ (by decide +kernel)) ggX13_readSum_X13_readProduct
set_option maxRecDepth 20000 in
theorem ggX13_readSum_X13_isMarked : GoodIn wsX13_readSum wsX13_isMarked := goodIn_r _ [8, 9, 10, 11, 12, 140, 141, 142, 143, 144, 145, 146, 147, 148, 149, 150, 151, 152, 153, 154, 155, 156, 157, 158, 159, 160, 161, 162, 163, 164, 165, 166, 167, 168, 169, 170, 171, 172, 173, 174, 175, 176, 177, 178, 179, 180, 181, 182, 183, 184, 185, 186, 187, 188, 189, 190, 191, 192, 193, 194, 195, 196, 197, 198, 199, 200, 201, 202, 203, 204, 205, 206] rfl (by decide +kernel)
set_option maxRecDepth 20000 in
theorem gX13_readSum_X13_isMarked : GoodIn wsX13_readSum (wsV RX13 240 RX13 yX13_isMarked wsX13_isMarked) := goodIn_app (goodIn_of _ (by decide +kernel)) ggX13_readSum_X13_isMarked
set_option maxRecDepth 20000 in
theorem ggX13_readSum_X13_stepOn : GoodIn wsX13_readSum wsX13_stepOn := goodIn_r _ [16, 17, 12, 10, 18, 19, 20, 21, 22, 23, 24, 25, 26, 27, 4, 28, 29, 11, 30, 31, 32, 33, 34, 35, 36, 37, 38, 140, 141, 142, 143, 144, 145, 146, 147, 148, 149, 150, 151, 152, 153, 154, 155, 156, 157, 158, 159, 160, 161, 162, 163, 164, 165, 166, 167, 168, 169, 170, 171, 172, 173, 174, 175, 176, 177, 178, 179, 180, 181, 182, 183, 184, 185, 186, 187, 188, 189, 190, 191, 192, 193, 194, 195, 196, 197, 198, 199, 200, 201, 202, 203, 204, 205, 206] rfl (by decide +kernel)
set_option maxRecDepth 20000 in
theorem gX13_readSum_X13_stepOn : GoodIn wsX13_readSum (wsV RX13 247 RX13 yX13_stepOn wsX13_stepOn) := goodIn_app (goodIn_of _ (by decide +kernel)) ggX13_readSum_X13_stepOn
set_option maxRecDepth 20000 in
theorem ggX13_readSum_X13_lay : GoodIn wsX13_readSum wsX13_lay := goodIn_r _ [42, 9, 43, 44, 140, 141, 142, 143, 144, 145, 146, 147, 148, 149, 150, 151, 152, 153, 154, 155, 156, 157, 158, 159, 160, 161, 162, 163, 164, 165, 166, 167, 168, 169, 170, 171, 172, 173, 174, 175, 176, 177, 178, 179, 180, 181, 182, 183, 184, 185, 186, 187, 188, 189, 190, 191, 192, 193, 194, 195, 196, 197, 198, 199, 200, 201, 202, 203, 204, 205, 206] rfl (by decide +kernel)
set_option maxRecDepth 20000 in
theorem gX13_readSum_X13_lay : GoodIn wsX13_readSum (wsV RX13 256 RX13 yX13_lay wsX13_lay) := goodIn_app (goodIn_of _ (by decide +kernel)) ggX13_readSum_X13_lay
theorem dX13_readSum_0 : decode cX13_readSum 0 = .ok (.aload_n 0, 1) := by decide +kernel
theorem dX13_readSum_1 : decode cX13_readSum 1 = .ok (.iload_n 1, 1) := by decide +kernel
theorem dX13_readSum_2 : decode cX13_readSum 2 = .ok (.invokevirtual 272, 3) := by decide +kernel
theorem dX13_readSum_5 : decode cX13_readSum 5 = .ok (.aload_n 0, 1) := by decide +kernel
theorem dX13_readSum_6 : decode cX13_readSum 6 = .ok (.bipush 43, 2) := by decide +kernel
theorem dX13_readSum_8 : decode cX13_readSum 8 = .ok (.invokevirtual 240, 3) := by decide +kernel
theorem dX13_readSum_11 : decode cX13_readSum 11 = .ok (.ifCond .ne 12, 3) := by decide +kernel
theorem dX13_readSum_14 : decode cX13_readSum 14 = .ok (.aload_n 0, 1) := by decide +kernel
theorem dX13_readSum_15 : decode cX13_readSum 15 = .ok (.bipush 45, 2) := by decide +kernel
theorem dX13_readSum_17 : decode cX13_readSum 17 = .ok (.invokevirtual 240, 3) := by decide +kernel
theorem dX13_readSum_20 : decode cX13_readSum 20 = .ok (.ifCond .eq 37, 3) := by decide +kernel
theorem dX13_readSum_23 : decode cX13_readSum 23 = .ok (.aload_n 0, 1) := by decide +kernel
theorem dX13_readSum_24 : decode cX13_readSum 24 = .ok (.bipush 43, 2) := by decide +kernel
theorem dX13_readSum_26 : decode cX13_readSum 26 = .ok (.invokevirtual 240, 3) := by decide +kernel
theorem dX13_readSum_29 : decode cX13_readSum 29 = .ok (.ifCond .eq 8, 3) := by decide +kernel
theorem dX13_readSum_32 : decode cX13_readSum 32 = .ok (.bipush (-20), 2) := by decide +kernel
theorem dX13_readSum_34 : decode cX13_readSum 34 = .ok (.goto 5, 3) := by decide +kernel
theorem dX13_readSum_37 : decode cX13_readSum 37 = .ok (.bipush (-21), 2) := by decide +kernel
theorem dX13_readSum_39 : decode cX13_readSum 39 = .ok (.istore_n 2, 1) := by decide +kernel
theorem dX13_readSum_40 : decode cX13_readSum 40 = .ok (.aload_n 0, 1) := by decide +kernel
theorem dX13_readSum_41 : decode cX13_readSum 41 = .ok (.invokevirtual 247, 3) := by decide +kernel
theorem dX13_readSum_44 : decode cX13_readSum 44 = .ok (.aload_n 0, 1) := by decide +kernel
theorem dX13_readSum_45 : decode cX13_readSum 45 = .ok (.iload_n 1, 1) := by decide +kernel
theorem dX13_readSum_46 : decode cX13_readSum 46 = .ok (.invokevirtual 272, 3) := by decide +kernel
theorem dX13_readSum_49 : decode cX13_readSum 49 = .ok (.aload_n 0, 1) := by decide +kernel
theorem dX13_readSum_50 : decode cX13_readSum 50 = .ok (.iload_n 2, 1) := by decide +kernel
theorem dX13_readSum_51 : decode cX13_readSum 51 = .ok (.invokevirtual 256, 3) := by decide +kernel
theorem dX13_readSum_54 : decode cX13_readSum 54 = .ok (.goto (-49), 3) := by decide +kernel
theorem dX13_readSum_57 : decode cX13_readSum 57 = .ok (.return_, 1) := by decide +kernel
set_option maxRecDepth 20000 in
theorem ggX13_readNot_X13_is : GoodIn wsX13_readNot wsX13_is := goodIn_r _ [6, 1, 7, 8, 9, 10, 11, 12, 13, 14, 15, 16, 17, 18, 19, 20, 21, 22, 23, 24, 25, 26, 27, 28, 29, 30, 31, 32, 33, 34, 35, 36, 37, 38, 39, 40, 41, 42, 43, 44, 45, 46, 47, 48, 49, 50, 51, 52, 53, 54, 55, 56, 57, 58, 59, 140, 141, 142, 143, 144, 145, 146, 147, 148, 149, 150, 151, 152, 153, 154, 155, 156, 157, 158, 159, 160, 161, 162, 163, 164, 165, 166, 167, 168, 169, 170, 171, 172, 173, 174, 175, 176, 177, 178, 179, 180, 181, 182, 183, 184, 185, 186, 187, 188, 189, 190, 191, 192, 193, 194, 195, 196, 197, 198, 199, 200, 201, 202, 203, 204, 205, 206] rfl (by decide +kernel)
set_option maxRecDepth 20000 in
theorem gX13_readNot_X13_is : GoodIn wsX13_readNot (wsV RX13 236 RX13 yX13_is wsX13_is) := goodIn_app (goodIn_of _ (by decide +kernel)) ggX13_readNot_X13_is
set_option maxRecDepth 20000 in
theorem ggX13_readNot_X13_wrong : GoodIn wsX13_readNot wsX13_wrong := goodIn_r _ [63, 1, 9, 64, 140, 141, 142, 143, 144, 145, 146, 147, 148, 149, 150, 151, 152, 153, 154, 155, 156, 157, 158, 159, 160, 161, 162, 163, 164, 165, 166, 167, 168, 169, 170, 171, 172, 173, 174, 175, 176, 177, 178, 179, 180, 181, 182, 183, 184, 185, 186, 187, 188, 189, 190, 191, 192, 193, 194, 195, 196, 197, 198, 199, 200, 201, 202, 203, 204, 205, 206] rfl (by decide +kernel)
set_option maxRecDepth 20000 in
theorem gX13_readNot_X13_wrong : GoodIn wsX13_readNot (wsV RX13 243 RX13 yX13_wrong wsX13_wrong) := goodIn_app (goodIn_of _ (by decide +kernel)) ggX13_readNot_X13_wrong
set_option maxRecDepth 20000 in
theorem ggX13_readNot_X13_stepOn : GoodIn wsX13_readNot wsX13_stepOn := goodIn_r _ [68, 69, 9, 7, 70, 71, 72, 73, 74, 75, 8, 76, 77, 78, 5, 79, 80, 10, 81, 82, 83, 84, 85, 86, 87, 88, 89, 140, 141, 142, 143, 144, 145, 146, 147, 148, 149, 150, 151, 152, 153, 154, 155, 156, 157, 158, 159, 160, 161, 162, 163, 164, 165, 166, 167, 168, 169, 170, 171, 172, 173, 174, 175, 176, 177, 178, 179, 180, 181, 182, 183, 184, 185, 186, 187, 188, 189, 190, 191, 192, 193, 194, 195, 196, 197, 198, 199, 200, 201, 202, 203, 204, 205, 206] rfl (by decide +kernel)
set_option maxRecDepth 20000 in
theorem gX13_readNot_X13_stepOn : GoodIn wsX13_readNot (wsV RX13 247 RX13 yX13_stepOn wsX13_stepOn) := goodIn_app (goodIn_of _ (by decide +kernel)) ggX13_readNot_X13_stepOn
set_option maxRecDepth 20000 in
theorem ggX13_readNot_X13_readSum : GoodIn wsX13_readNot wsX13_readSum := goodIn_r _ [136, 137, 138, 139, 5, 93, 94, 95, 96, 1, 7, 10, 9, 65, 66, 67, 68, 69, 70, 71, 72, 73, 74, 75, 8, 76, 77, 78, 79, 80, 81, 82, 83, 84, 85, 86, 87, 88, 89, 97, 98, 99, 100, 101, 102, 103, 104, 105, 106, 2, 3, 4, 6, 11, 12, 13, 14, 15, 16, 17, 18, 19, 20, 21, 22, 23, 24, 25, 26, 27, 28, 29, 30, 31, 32, 33, 34, 35, 36, 37, 38, 39, 40, 41, 42, 43, 44, 45, 46, 47, 48, 49, 50, 51, 52, 53, 54, 55, 56, 57, 58, 59, 107, 60, 61, 62, 63, 64, 108, 109, 110, 0, 90, 91, 92, 111, 112, 113, 114, 115, 116, 117, 118, 119, 120, 121, 122, 123, 124, 125, 126, 127, 128, 129, 130, 131, 132, 133, 134, 135, 140, 141, 142, 143, 144, 145, 146, 147, 148, 149, 150, 151, 152, 153, 154, 155, 156, 157, 158, 159, 160, 161, 162, 163, 164, 165, 166, 167, 168, 169, 170, 171, 172, 173, 174, 175, 176, 177, 178, 179, 180, 181, 182, 183, 184, 185, 186, 187, 188, 189, 190, 191, 192, 193, 194, 195, 196, 197, 198, 199, 200, 201, 202, 203, 204, 205, 206] rfl (by decide +kernel)
set_option maxRecDepth 20000 in
theorem gX13_readNot_X13_readSum : GoodIn wsX13_readNot (wsV RX13 277 RX13 yX13_readSum wsX13_readSum) := goodIn_app (goodIn_of _ (by decide +kernel)) ggX13_readNot_X13_readSum
set_option maxRecDepth 20000 in
theorem ggX13_readNot_X13_isMarked : GoodIn wsX13_readNot wsX13_isMarked := goodIn_r _ [96, 1, 7, 10, 9, 140, 141, 142, 143, 144, 145, 146, 147, 148, 149, 150, 151, 152, 153, 154, 155, 156, 157, 158, 159, 160, 161, 162, 163, 164, 165, 166, 167, 168, 169, 170, 171, 172, 173, 174, 175, 176, 177, 178, 179, 180, 181, 182, 183, 184, 185, 186, 187, 188, 189, 190, 191, 192, 193, 194, 195, 196, 197, 198, 199, 200, 201, 202, 203, 204, 205, 206] rfl (by decide +kernel)
set_option maxRecDepth 20000 in
theorem gX13_readNot_X13_isMarked : GoodIn wsX13_readNot (wsV RX13 240 RX13 yX13_isMarked wsX13_isMarked) := goodIn_app (goodIn_of _ (by decide +kernel)) ggX13_readNot_X13_isMarked
set_option maxRecDepth 20000 in
theorem ggX13_readNot_X13_lay : GoodIn wsX13_readNot wsX13_lay := goodIn_r _ [100, 1, 101, 102, 140, 141, 142, 143, 144, 145, 146, 147, 148, 149, 150, 151, 152, 153, 154, 155, 156, 157, 158, 159, 160, 161, 162, 163, 164, 165, 166, 167, 168, 169, 170, 171, 172, 173, 174, 175, 176, 177, 178, 179, 180, 181, 182, 183, 184, 185, 186, 187, 188, 189, 190, 191, 192, 193, 194, 195, 196, 197, 198, 199, 200, 201, 202, 203, 204, 205, 206] rfl (by decide +kernel)
set_option maxRecDepth 20000 in
theorem gX13_readNot_X13_lay : GoodIn wsX13_readNot (wsV RX13 256 RX13 yX13_lay wsX13_lay) := goodIn_app (goodIn_of _ (by decide +kernel)) ggX13_readNot_X13_lay
theorem dX13_readNot_0 : decode cX13_readNot 0 = .ok (.iconst 0, 1) := by decide +kernel
theorem dX13_readNot_1 : decode cX13_readNot 1 = .ok (.istore_n 2, 1) := by decide +kernel
theorem dX13_readNot_2 : decode cX13_readNot 2 = .ok (.aload_n 0, 1) := by decide +kernel
theorem dX13_readNot_3 : decode cX13_readNot 3 = .ok (.ldc_w 275, 3) := by decide +kernel
theorem dX13_readNot_6 : decode cX13_readNot 6 = .ok (.invokevirtual 236, 3) := by decide +kernel
theorem dX13_readNot_9 : decode cX13_readNot 9 = .ok (.ifCond .eq 31, 3) := by decide +kernel
theorem dX13_readNot_12 : decode cX13_readNot 12 = .ok (.iload_n 2, 1) := by decide +kernel
theorem dX13_readNot_13 : decode cX13_readNot 13 = .ok (.bipush 6, 2) := by decide +kernel
theorem dX13_readNot_15 : decode cX13_readNot 15 = .ok (.if_icmp .ne 8, 3) := by decide +kernel
theorem dX13_readNot_18 : decode cX13_readNot 18 = .ok (.aload_n 0, 1) := by decide +kernel
theorem dX13_readNot_19 : decode cX13_readNot 19 = .ok (.iconst 2, 1) := by decide +kernel
theorem dX13_readNot_20 : decode cX13_readNot 20 = .ok (.invokevirtual 243, 3) := by decide +kernel
theorem dX13_readNot_23 : decode cX13_readNot 23 = .ok (.iinc 2 1, 3) := by decide +kernel
theorem dX13_readNot_26 : decode cX13_readNot 26 = .ok (.aload_n 0, 1) := by decide +kernel
theorem dX13_readNot_27 : decode cX13_readNot 27 = .ok (.getfield 222, 3) := by decide +kernel
theorem dX13_readNot_30 : decode cX13_readNot 30 = .ok (.ifCond .ne (-28), 3) := by decide +kernel
theorem dX13_readNot_33 : decode cX13_readNot 33 = .ok (.aload_n 0, 1) := by decide +kernel
theorem dX13_readNot_34 : decode cX13_readNot 34 = .ok (.invokevirtual 247, 3) := by decide +kernel
theorem dX13_readNot_37 : decode cX13_readNot 37 = .ok (.goto (-35), 3) := by decide +kernel
theorem dX13_readNot_40 : decode cX13_readNot 40 = .ok (.aload_n 0, 1) := by decide +kernel
theorem dX13_readNot_41 : decode cX13_readNot 41 = .ok (.iload_n 1, 1) := by decide +kernel
theorem dX13_readNot_42 : decode cX13_readNot 42 = .ok (.invokevirtual 277, 3) := by decide +kernel
theorem dX13_readNot_45 : decode cX13_readNot 45 = .ok (.aload_n 0, 1) := by decide +kernel
theorem dX13_readNot_46 : decode cX13_readNot 46 = .ok (.bipush 60, 2) := by decide +kernel
theorem dX13_readNot_48 : decode cX13_readNot 48 = .ok (.invokevirtual 240, 3) := by decide +kernel
theorem dX13_readNot_51 : decode cX13_readNot 51 = .ok (.ifCond .ne 12, 3) := by decide +kernel
theorem dX13_readNot_54 : decode cX13_readNot 54 = .ok (.aload_n 0, 1) := by decide +kernel
theorem dX13_readNot_55 : decode cX13_readNot 55 = .ok (.bipush 61, 2) := by decide +kernel
theorem dX13_readNot_57 : decode cX13_readNot 57 = .ok (.invokevirtual 240, 3) := by decide +kernel
theorem dX13_readNot_60 : decode cX13_readNot 60 = .ok (.ifCond .eq 34, 3) := by decide +kernel
theorem dX13_readNot_63 : decode cX13_readNot 63 = .ok (.aload_n 0, 1) := by decide +kernel
theorem dX13_readNot_64 : decode cX13_readNot 64 = .ok (.bipush 60, 2) := by decide +kernel
theorem dX13_readNot_66 : decode cX13_readNot 66 = .ok (.invokevirtual 240, 3) := by decide +kernel
theorem dX13_readNot_69 : decode cX13_readNot 69 = .ok (.ifCond .eq 8, 3) := by decide +kernel
theorem dX13_readNot_72 : decode cX13_readNot 72 = .ok (.bipush (-24), 2) := by decide +kernel
theorem dX13_readNot_74 : decode cX13_readNot 74 = .ok (.goto 5, 3) := by decide +kernel
theorem dX13_readNot_77 : decode cX13_readNot 77 = .ok (.bipush (-25), 2) := by decide +kernel
theorem dX13_readNot_79 : decode cX13_readNot 79 = .ok (.istore_n 3, 1) := by decide +kernel
theorem dX13_readNot_80 : decode cX13_readNot 80 = .ok (.aload_n 0, 1) := by decide +kernel
theorem dX13_readNot_81 : decode cX13_readNot 81 = .ok (.invokevirtual 247, 3) := by decide +kernel
theorem dX13_readNot_84 : decode cX13_readNot 84 = .ok (.aload_n 0, 1) := by decide +kernel
theorem dX13_readNot_85 : decode cX13_readNot 85 = .ok (.iload_n 1, 1) := by decide +kernel
theorem dX13_readNot_86 : decode cX13_readNot 86 = .ok (.invokevirtual 277, 3) := by decide +kernel
theorem dX13_readNot_89 : decode cX13_readNot 89 = .ok (.aload_n 0, 1) := by decide +kernel
theorem dX13_readNot_90 : decode cX13_readNot 90 = .ok (.iload_n 3, 1) := by decide +kernel
theorem dX13_readNot_91 : decode cX13_readNot 91 = .ok (.invokevirtual 256, 3) := by decide +kernel
theorem dX13_readNot_94 : decode cX13_readNot 94 = .ok (.iconst 0, 1) := by decide +kernel
theorem dX13_readNot_95 : decode cX13_readNot 95 = .ok (.istore_n 3, 1) := by decide +kernel
theorem dX13_readNot_96 : decode cX13_readNot 96 = .ok (.iload_n 3, 1) := by decide +kernel
theorem dX13_readNot_97 : decode cX13_readNot 97 = .ok (.iload_n 2, 1) := by decide +kernel
theorem dX13_readNot_98 : decode cX13_readNot 98 = .ok (.if_icmp .ge 15, 3) := by decide +kernel
theorem dX13_readNot_101 : decode cX13_readNot 101 = .ok (.aload_n 0, 1) := by decide +kernel
theorem dX13_readNot_102 : decode cX13_readNot 102 = .ok (.bipush (-28), 2) := by decide +kernel
theorem dX13_readNot_104 : decode cX13_readNot 104 = .ok (.invokevirtual 256, 3) := by decide +kernel
theorem dX13_readNot_107 : decode cX13_readNot 107 = .ok (.iinc 3 1, 3) := by decide +kernel
theorem dX13_readNot_110 : decode cX13_readNot 110 = .ok (.goto (-14), 3) := by decide +kernel
theorem dX13_readNot_113 : decode cX13_readNot 113 = .ok (.return_, 1) := by decide +kernel
set_option maxRecDepth 20000 in
theorem ggX13_readAnd_X13_readNot : GoodIn wsX13_readAnd wsX13_readNot := goodIn_r _ [107, 9, 5, 6, 7, 4, 8, 10, 11, 12, 13, 14, 15, 16, 17, 18, 19, 20, 21, 22, 23, 24, 25, 26, 27, 28, 29, 30, 31, 32, 33, 34, 35, 36, 37, 38, 39, 40, 41, 42, 43, 44, 45, 46, 47, 48, 49, 50, 51, 52, 53, 54, 55, 56, 57, 58, 59, 60, 61, 62, 99, 100, 101, 102, 103, 63, 64, 65, 66, 67, 68, 69, 70, 71, 72, 73, 74, 75, 76, 77, 78, 79, 80, 81, 82, 83, 84, 85, 86, 87, 108, 109, 110, 95, 96, 97, 98, 88, 89, 90, 91, 92, 93, 0, 1, 2, 3, 94, 104, 105, 106, 111, 112, 113, 114, 115, 116, 117, 118, 119, 120, 121, 122, 123, 124, 125, 126, 127, 128, 129, 130, 131, 132, 133, 134, 135, 136, 137, 138, 139, 140, 141, 142, 143, 144, 145, 146, 147, 148, 149, 150, 151, 152, 153, 154, 155, 156, 157, 158, 159, 160, 161, 162, 163, 164, 165, 166, 167, 168, 169, 170, 171, 172, 173, 174, 175, 176, 177, 178, 179, 180, 181, 182, 183, 184, 185, 186, 187, 188, 189, 190, 191, 192, 193, 194, 195, 196, 197, 198, 199, 200, 201, 202, 203, 204, 205, 206] rfl (by decide +kernel)
set_option maxRecDepth 20000 in
theorem gX13_readAnd_X13_readNot : GoodIn wsX13_readAnd (wsV RX13 280 RX13 yX13_readNot wsX13_readNot) := goodIn_app (goodIn_of _ (by decide +kernel)) ggX13_readAnd_X13_readNot
set_option maxRecDepth 20000 in
theorem ggX13_readAnd_X13_is : GoodIn wsX13_readAnd wsX13_is := goodIn_r _ [8, 9, 10, 11, 12, 13, 14, 15, 16, 17, 18, 19, 20, 21, 22, 23, 24, 25, 26, 27, 28, 29, 30, 31, 32, 33, 34, 35, 36, 37, 38, 39, 40, 41, 42, 43, 44, 45, 46, 47, 48, 49, 50, 51, 52, 53, 54, 55, 56, 57, 58, 59, 60, 61, 62, 140, 141, 142, 143, 144, 145, 146, 147, 148, 149, 150, 151, 152, 153, 154, 155, 156, 157, 158, 159, 160, 161, 162, 163, 164, 165, 166, 167, 168, 169, 170, 171, 172, 173, 174, 175, 176, 177, 178, 179, 180, 181, 182, 183, 184, 185, 186, 187, 188, 189, 190, 191, 192, 193, 194, 195, 196, 197, 198, 199, 200, 201, 202, 203, 204, 205, 206] rfl (by decide +kernel)
set_option maxRecDepth 20000 in
theorem gX13_readAnd_X13_is : GoodIn wsX13_readAnd (wsV RX13 236 RX13 yX13_is wsX13_is) := goodIn_app (goodIn_of _ (by decide +kernel)) ggX13_readAnd_X13_is
set_option maxRecDepth 20000 in
theorem ggX13_readAnd_X13_stepOn : GoodIn wsX13_readAnd wsX13_stepOn := goodIn_r _ [66, 67, 12, 10, 68, 69, 70, 71, 72, 73, 11, 74, 75, 76, 4, 77, 78, 13, 79, 80, 81, 82, 83, 84, 85, 86, 87, 140, 141, 142, 143, 144, 145, 146, 147, 148, 149, 150, 151, 152, 153, 154, 155, 156, 157, 158, 159, 160, 161, 162, 163, 164, 165, 166, 167, 168, 169, 170, 171, 172, 173, 174, 175, 176, 177, 178, 179, 180, 181, 182, 183, 184, 185, 186, 187, 188, 189, 190, 191, 192, 193, 194, 195, 196, 197, 198, 199, 200, 201, 202, 203, 204, 205, 206] rfl (by decide +kernel)
set_option maxRecDepth 20000 in
theorem gX13_readAnd_X13_stepOn : GoodIn wsX13_readAnd (wsV RX13 247 RX13 yX13_stepOn wsX13_stepOn) := goodIn_app (goodIn_of _ (by decide +kernel)) ggX13_readAnd_X13_stepOn
set_option maxRecDepth 20000 in
theorem ggX13_readAnd_X13_lay : GoodIn wsX13_readAnd wsX13_lay := goodIn_r _ [91, 9, 92, 93, 140, 141, 142, 143, 144, 145, 146, 147, 148, 149, 150, 151, 152, 153, 154, 155, 156, 157, 158, 159, 160, 161, 162, 163, 164, 165, 166, 167, 168, 169, 170, 171, 172, 173, 174, 175, 176, 177, 178, 179, 180, 181, 182, 183, 184, 185, 186, 187, 188, 189, 190, 191, 192, 193, 194, 195, 196, 197, 198, 199, 200, 201, 202, 203, 204, 205, 206] rfl (by decide +kernel)
set_option maxRecDepth 20000 in
theorem gX13_readAnd_X13_lay : GoodIn wsX13_readAnd (wsV RX13 256 RX13 yX13_lay wsX13_lay) := goodIn_app (goodIn_of _ (by decide +kernel)) ggX13_readAnd_X13_lay
theorem dX13_readAnd_0 : decode cX13_readAnd 0 = .ok (.aload_n 0, 1) := by decide +kernel
theorem dX13_readAnd_1 : decode cX13_readAnd 1 = .ok (.iload_n 1, 1) := by decide +kernel
theorem dX13_readAnd_2 : decode cX13_readAnd 2 = .ok (.invokevirtual 280, 3) := by decide +kernel
theorem dX13_readAnd_5 : decode cX13_readAnd 5 = .ok (.aload_n 0, 1) := by decide +kernel
theorem dX13_readAnd_6 : decode cX13_readAnd 6 = .ok (.ldc_w 283, 3) := by decide +kernel
theorem dX13_readAnd_9 : decode cX13_readAnd 9 = .ok (.invokevirtual 236, 3) := by decide +kernel
theorem dX13_readAnd_12 : decode cX13_readAnd 12 = .ok (.ifCond .eq 21, 3) := by decide +kernel
theorem dX13_readAnd_15 : decode cX13_readAnd 15 = .ok (.aload_n 0, 1) := by decide +kernel
theorem dX13_readAnd_16 : decode cX13_readAnd 16 = .ok (.invokevirtual 247, 3) := by decide +kernel
theorem dX13_readAnd_19 : decode cX13_readAnd 19 = .ok (.aload_n 0, 1) := by decide +kernel
theorem dX13_readAnd_20 : decode cX13_readAnd 20 = .ok (.iload_n 1, 1) := by decide +kernel
theorem dX13_readAnd_21 : decode cX13_readAnd 21 = .ok (.invokevirtual 280, 3) := by decide +kernel
theorem dX13_readAnd_24 : decode cX13_readAnd 24 = .ok (.aload_n 0, 1) := by decide +kernel
theorem dX13_readAnd_25 : decode cX13_readAnd 25 = .ok (.bipush (-26), 2) := by decide +kernel
theorem dX13_readAnd_27 : decode cX13_readAnd 27 = .ok (.invokevirtual 256, 3) := by decide +kernel
theorem dX13_readAnd_30 : decode cX13_readAnd 30 = .ok (.goto (-25), 3) := by decide +kernel
theorem dX13_readAnd_33 : decode cX13_readAnd 33 = .ok (.return_, 1) := by decide +kernel
set_option maxRecDepth 20000 in
theorem ggX13_readExpression_X13_isMarked : GoodIn wsX13_readExpression wsX13_isMarked := goodIn_r _ [7, 1, 2, 8, 9, 140, 141, 142, 143, 144, 145, 146, 147, 148, 149, 150, 151, 152, 153, 154, 155, 156, 157, 158, 159, 160, 161, 162, 163, 164, 165, 166, 167, 168, 169, 170, 171, 172, 173, 174, 175, 176, 177, 178, 179, 180, 181, 182, 183, 184, 185, 186, 187, 188, 189, 190, 191, 192, 193, 194, 195, 196, 197, 198, 199, 200, 201, 202, 203, 204, 205, 206] rfl (by decide +kernel)
set_option maxRecDepth 20000 in
theorem gX13_readExpression_X13_isMarked : GoodIn wsX13_readExpression (wsV RX13 240 RX13 yX13_isMarked wsX13_isMarked) := goodIn_app (goodIn_of _ (by decide +kernel)) ggX13_readExpression_X13_isMarked
set_option maxRecDepth 20000 in
theorem ggX13_readExpression_X13_wrong : GoodIn wsX13_readExpression wsX13_wrong := goodIn_r _ [13, 1, 9, 14, 140, 141, 142, 143, 144, 145, 146, 147, 148, 149, 150, 151, 152, 153, 154, 155, 156, 157, 158, 159, 160, 161, 162, 163, 164, 165, 166, 167, 168, 169, 170, 171, 172, 173, 174, 175, 176, 177, 178, 179, 180, 181, 182, 183, 184, 185, 186, 187, 188, 189, 190, 191, 192, 193, 194, 195, 196, 197, 198, 199, 200, 201, 202, 203, 204, 205, 206] rfl (by decide +kernel)
set_option maxRecDepth 20000 in
theorem gX13_readExpression_X13_wrong : GoodIn wsX13_readExpression (wsV RX13 243 RX13 yX13_wrong wsX13_wrong) := goodIn_app (goodIn_of _ (by decide +kernel)) ggX13_readExpression_X13_wrong
set_option maxRecDepth 20000 in
theorem ggX13_readExpression_X13_readAnd : GoodIn wsX13_readExpression wsX13_readAnd := goodIn_r _ [103, 104, 105, 106, 6, 18, 19, 20, 21, 1, 2, 22, 9, 8, 23, 24, 25, 26, 27, 28, 29, 30, 31, 32, 33, 34, 35, 36, 37, 38, 39, 40, 41, 42, 43, 44, 45, 46, 47, 48, 49, 50, 51, 52, 53, 54, 55, 56, 57, 58, 59, 60, 61, 62, 63, 64, 65, 66, 67, 68, 69, 70, 71, 72, 73, 74, 75, 76, 77, 78, 79, 80, 81, 82, 83, 84, 85, 86, 87, 88, 89, 90, 91, 92, 93, 94, 95, 96, 97, 98, 99, 100, 101, 102, 0, 3, 4, 5, 7, 10, 11, 12, 13, 14, 15, 16, 17, 107, 108, 109, 110, 111, 112, 113, 114, 115, 116, 117, 118, 119, 120, 121, 122, 123, 124, 125, 126, 127, 128, 129, 130, 131, 132, 133, 134, 135, 136, 137, 138, 139, 140, 141, 142, 143, 144, 145, 146, 147, 148, 149, 150, 151, 152, 153, 154, 155, 156, 157, 158, 159, 160, 161, 162, 163, 164, 165, 166, 167, 168, 169, 170, 171, 172, 173, 174, 175, 176, 177, 178, 179, 180, 181, 182, 183, 184, 185, 186, 187, 188, 189, 190, 191, 192, 193, 194, 195, 196, 197, 198, 199, 200, 201, 202, 203, 204, 205, 206] rfl (by decide +kernel)
set_option maxRecDepth 20000 in
theorem gX13_readExpression_X13_readAnd : GoodIn wsX13_readExpression (wsV RX13 285 RX13 yX13_readAnd wsX13_readAnd) := goodIn_app (goodIn_of _ (by decide +kernel)) ggX13_readExpression_X13_readAnd
set_option maxRecDepth 20000 in
theorem ggX13_readExpression_X13_is : GoodIn wsX13_readExpression wsX13_is := goodIn_r _ [21, 1, 2, 22, 9, 8, 23, 24, 25, 26, 27, 28, 29, 30, 31, 32, 33, 34, 35, 36, 37, 38, 39, 40, 41, 42, 43, 44, 45, 46, 47, 48, 49, 50, 51, 52, 53, 54, 55, 56, 57, 58, 59, 60, 61, 62, 63, 64, 65, 66, 67, 68, 69, 70, 71, 140, 141, 142, 143, 144, 145, 146, 147, 148, 149, 150, 151, 152, 153, 154, 155, 156, 157, 158, 159, 160, 161, 162, 163, 164, 165, 166, 167, 168, 169, 170, 171, 172, 173, 174, 175, 176, 177, 178, 179, 180, 181, 182, 183, 184, 185, 186, 187, 188, 189, 190, 191, 192, 193, 194, 195, 196, 197, 198, 199, 200, 201, 202, 203, 204, 205, 206] rfl (by decide +kernel)
set_option maxRecDepth 20000 in
theorem gX13_readExpression_X13_is : GoodIn wsX13_readExpression (wsV RX13 236 RX13 yX13_is wsX13_is) := goodIn_app (goodIn_of _ (by decide +kernel)) ggX13_readExpression_X13_is
set_option maxRecDepth 20000 in
theorem ggX13_readExpression_X13_stepOn : GoodIn wsX13_readExpression wsX13_stepOn := goodIn_r _ [75, 76, 9, 2, 77, 78, 79, 80, 81, 82, 22, 83, 84, 85, 6, 86, 87, 8, 88, 89, 90, 91, 92, 93, 94, 95, 96, 140, 141, 142, 143, 144, 145, 146, 147, 148, 149, 150, 151, 152, 153, 154, 155, 156, 157, 158, 159, 160, 161, 162, 163, 164, 165, 166, 167, 168, 169, 170, 171, 172, 173, 174, 175, 176, 177, 178, 179, 180, 181, 182, 183, 184, 185, 186, 187, 188, 189, 190, 191, 192, 193, 194, 195, 196, 197, 198, 199, 200, 201, 202, 203, 204, 205, 206] rfl (by decide +kernel)
set_option maxRecDepth 20000 in
theorem gX13_readExpression_X13_stepOn : GoodIn wsX13_readExpression (wsV RX13 247 RX13 yX13_stepOn wsX13_stepOn) := goodIn_app (goodIn_of _ (by decide +kernel)) ggX13_readExpression_X13_stepOn
set_option maxRecDepth 20000 in
theorem ggX13_readExpression_X13_lay : GoodIn wsX13_readExpression wsX13_lay := goodIn_r _ [100, 1, 101, 102, 140, 141, 142, 143, 144, 145, 146, 147, 148, 149, 150, 151, 152, 153, 154, 155, 156, 157, 158, 159, 160, 161, 162, 163, 164, 165, 166, 167, 168, 169, 170, 171, 172, 173, 174, 175, 176, 177, 178, 179, 180, 181, 182, 183, 184, 185, 186, 187, 188, 189, 190, 191, 192, 193, 194, 195, 196, 197, 198, 199, 200, 201, 202, 203, 204, 205, 206] rfl (by decide +kernel)
set_option maxRecDepth 20000 in
theorem gX13_readExpression_X13_lay : GoodIn wsX13_readExpression (wsV RX13 256 RX13 yX13_lay wsX13_lay) := goodIn_app (goodIn_of _ (by decide +kernel)) ggX13_readExpression_X13_lay
theorem dX13_readExpression_0 : decode cX13_readExpression 0 = .ok (.aload_n 0, 1) := by decide +kernel
theorem dX13_readExpression_1 : decode cX13_readExpression 1 = .ok (.getfield 222, 3) := by decide +kernel
theorem dX13_readExpression_4 : decode cX13_readExpression 4 = .ok (.ifCond .eq 4, 3) := by decide +kernel
theorem dX13_readExpression_7 : decode cX13_readExpression 7 = .ok (.return_, 1) := by decide +kernel
theorem dX13_readExpression_8 : decode cX13_readExpression 8 = .ok (.aload_n 0, 1) := by decide +kernel
theorem dX13_readExpression_9 : decode cX13_readExpression 9 = .ok (.getfield 196, 3) := by decide +kernel
theorem dX13_readExpression_12 : decode cX13_readExpression 12 = .ok (.iconst 2, 1) := by decide +kernel
theorem dX13_readExpression_13 : decode cX13_readExpression 13 = .ok (.if_icmp .eq 20, 3) := by decide +kernel
theorem dX13_readExpression_16 : decode cX13_readExpression 16 = .ok (.aload_n 0, 1) := by decide +kernel
theorem dX13_readExpression_17 : decode cX13_readExpression 17 = .ok (.getfield 196, 3) := by decide +kernel
theorem dX13_readExpression_20 : decode cX13_readExpression 20 = .ok (.iconst 1, 1) := by decide +kernel
theorem dX13_readExpression_21 : decode cX13_readExpression 21 = .ok (.if_icmp .eq 12, 3) := by decide +kernel
theorem dX13_readExpression_24 : decode cX13_readExpression 24 = .ok (.aload_n 0, 1) := by decide +kernel
theorem dX13_readExpression_25 : decode cX13_readExpression 25 = .ok (.bipush 40, 2) := by decide +kernel
theorem dX13_readExpression_27 : decode cX13_readExpression 27 = .ok (.invokevirtual 240, 3) := by decide +kernel
theorem dX13_readExpression_30 : decode cX13_readExpression 30 = .ok (.ifCond .eq 7, 3) := by decide +kernel
theorem dX13_readExpression_33 : decode cX13_readExpression 33 = .ok (.iconst 1, 1) := by decide +kernel
theorem dX13_readExpression_34 : decode cX13_readExpression 34 = .ok (.goto 4, 3) := by decide +kernel
theorem dX13_readExpression_37 : decode cX13_readExpression 37 = .ok (.iconst 0, 1) := by decide +kernel
theorem dX13_readExpression_38 : decode cX13_readExpression 38 = .ok (.istore_n 2, 1) := by decide +kernel
theorem dX13_readExpression_39 : decode cX13_readExpression 39 = .ok (.iload_n 2, 1) := by decide +kernel
theorem dX13_readExpression_40 : decode cX13_readExpression 40 = .ok (.ifCond .ne 11, 3) := by decide +kernel
theorem dX13_readExpression_43 : decode cX13_readExpression 43 = .ok (.aload_n 0, 1) := by decide +kernel
theorem dX13_readExpression_44 : decode cX13_readExpression 44 = .ok (.iconst 1, 1) := by decide +kernel
theorem dX13_readExpression_45 : decode cX13_readExpression 45 = .ok (.invokevirtual 243, 3) := by decide +kernel
theorem dX13_readExpression_48 : decode cX13_readExpression 48 = .ok (.goto 14, 3) := by decide +kernel
theorem dX13_readExpression_51 : decode cX13_readExpression 51 = .ok (.iload_n 1, 1) := by decide +kernel
theorem dX13_readExpression_52 : decode cX13_readExpression 52 = .ok (.bipush 6, 2) := by decide +kernel
theorem dX13_readExpression_54 : decode cX13_readExpression 54 = .ok (.if_icmp .ne 8, 3) := by decide +kernel
theorem dX13_readExpression_57 : decode cX13_readExpression 57 = .ok (.aload_n 0, 1) := by decide +kernel
theorem dX13_readExpression_58 : decode cX13_readExpression 58 = .ok (.iconst 2, 1) := by decide +kernel
theorem dX13_readExpression_59 : decode cX13_readExpression 59 = .ok (.invokevirtual 243, 3) := by decide +kernel
theorem dX13_readExpression_62 : decode cX13_readExpression 62 = .ok (.aload_n 0, 1) := by decide +kernel
theorem dX13_readExpression_63 : decode cX13_readExpression 63 = .ok (.iload_n 1, 1) := by decide +kernel
theorem dX13_readExpression_64 : decode cX13_readExpression 64 = .ok (.invokevirtual 285, 3) := by decide +kernel
theorem dX13_readExpression_67 : decode cX13_readExpression 67 = .ok (.aload_n 0, 1) := by decide +kernel
theorem dX13_readExpression_68 : decode cX13_readExpression 68 = .ok (.ldc_w 288, 3) := by decide +kernel
theorem dX13_readExpression_71 : decode cX13_readExpression 71 = .ok (.invokevirtual 236, 3) := by decide +kernel
theorem dX13_readExpression_74 : decode cX13_readExpression 74 = .ok (.ifCond .eq 21, 3) := by decide +kernel
theorem dX13_readExpression_77 : decode cX13_readExpression 77 = .ok (.aload_n 0, 1) := by decide +kernel
theorem dX13_readExpression_78 : decode cX13_readExpression 78 = .ok (.invokevirtual 247, 3) := by decide +kernel
theorem dX13_readExpression_81 : decode cX13_readExpression 81 = .ok (.aload_n 0, 1) := by decide +kernel
theorem dX13_readExpression_82 : decode cX13_readExpression 82 = .ok (.iload_n 1, 1) := by decide +kernel
theorem dX13_readExpression_83 : decode cX13_readExpression 83 = .ok (.invokevirtual 285, 3) := by decide +kernel
theorem dX13_readExpression_86 : decode cX13_readExpression 86 = .ok (.aload_n 0, 1) := by decide +kernel
theorem dX13_readExpression_87 : decode cX13_readExpression 87 = .ok (.bipush (-27), 2) := by decide +kernel
theorem dX13_readExpression_89 : decode cX13_readExpression 89 = .ok (.invokevirtual 256, 3) := by decide +kernel
theorem dX13_readExpression_92 : decode cX13_readExpression 92 = .ok (.goto (-25), 3) := by decide +kernel
theorem dX13_readExpression_95 : decode cX13_readExpression 95 = .ok (.return_, 1) := by decide +kernel
set_option maxRecDepth 20000 in
theorem ggX13_another_X13_wrong : GoodIn wsX13_another wsX13_wrong := goodIn_r _ [7, 2, 8, 9, 38, 39, 40, 41, 42, 43, 44, 45, 46, 47, 48, 49, 50, 51, 52, 53, 54, 55, 56, 57, 58, 59, 60, 61, 62, 63, 64, 65, 66, 67, 68, 69, 70, 71, 72, 73, 74, 75, 76, 77, 78, 79, 80, 81, 82, 83, 84, 85, 86, 87, 88, 89, 90, 91, 92, 93, 94, 95, 96, 97, 98, 99, 100, 101, 102, 103, 104] rfl (by decide +kernel)
set_option maxRecDepth 20000 in
theorem gX13_another_X13_wrong : GoodIn wsX13_another (wsV RX13 243 RX13 yX13_wrong wsX13_wrong) := goodIn_app (goodIn_of _ (by decide +kernel)) ggX13_another_X13_wrong
set_option maxRecDepth 20000 in
theorem ggX13_another_X13_stepOn : GoodIn wsX13_another wsX13_stepOn := goodIn_r _ [13, 14, 8, 15, 16, 17, 18, 19, 20, 21, 22, 23, 24, 25, 6, 26, 27, 28, 29, 30, 31, 32, 33, 34, 35, 36, 37, 38, 39, 40, 41, 42, 43, 44, 45, 46, 47, 48, 49, 50, 51, 52, 53, 54, 55, 56, 57, 58, 59, 60, 61, 62, 63, 64, 65, 66, 67, 68, 69, 70, 71, 72, 73, 74, 75, 76, 77, 78, 79, 80, 81, 82, 83, 84, 85, 86, 87, 88, 89, 90, 91, 92, 93, 94, 95, 96, 97, 98, 99, 100, 101, 102, 103, 104] rfl (by decide +kernel)
set_option maxRecDepth 20000 in
theorem gX13_another_X13_stepOn : GoodIn wsX13_another (wsV RX13 247 RX13 yX13_stepOn wsX13_stepOn) := goodIn_app (goodIn_of _ (by decide +kernel)) ggX13_another_X13_stepOn
theorem dX13_another_0 : decode cX13_another 0 = .ok (.aload_n 0, 1) := by decide +kernel
theorem dX13_another_1 : decode cX13_another 1 = .ok (.getfield 40, 3) := by decide +kernel
theorem dX13_another_4 : decode cX13_another 4 = .ok (.bipush 7, 2) := by decide +kernel
theorem dX13_another_6 : decode cX13_another 6 = .ok (.iload_n 1, 1) := by decide +kernel
theorem dX13_another_7 : decode cX13_another 7 = .ok (.iadd, 1) := by decide +kernel
theorem dX13_another_8 : decode cX13_another 8 = .ok (.iaload, 1) := by decide +kernel
theorem dX13_another_9 : decode cX13_another 9 = .ok (.istore_n 3, 1) := by decide +kernel
theorem dX13_another_10 : decode cX13_another 10 = .ok (.iload_n 3, 1) := by decide +kernel
theorem dX13_another_11 : decode cX13_another 11 = .ok (.iload_n 2, 1) := by decide +kernel
theorem dX13_another_12 : decode cX13_another 12 = .ok (.if_icmp .ne 8, 3) := by decide +kernel
theorem dX13_another_15 : decode cX13_another 15 = .ok (.aload_n 0, 1) := by decide +kernel
theorem dX13_another_16 : decode cX13_another 16 = .ok (.iconst 2, 1) := by decide +kernel
theorem dX13_another_17 : decode cX13_another 17 = .ok (.invokevirtual 243, 3) := by decide +kernel
theorem dX13_another_20 : decode cX13_another 20 = .ok (.aload_n 0, 1) := by decide +kernel
theorem dX13_another_21 : decode cX13_another 21 = .ok (.getfield 222, 3) := by decide +kernel
theorem dX13_another_24 : decode cX13_another 24 = .ok (.ifCond .eq 5, 3) := by decide +kernel
theorem dX13_another_27 : decode cX13_another 27 = .ok (.iconst (-1), 1) := by decide +kernel
theorem dX13_another_28 : decode cX13_another 28 = .ok (.ireturn, 1) := by decide +kernel
theorem dX13_another_29 : decode cX13_another 29 = .ok (.aload_n 0, 1) := by decide +kernel
theorem dX13_another_30 : decode cX13_another 30 = .ok (.invokevirtual 247, 3) := by decide +kernel
theorem dX13_another_33 : decode cX13_another 33 = .ok (.iload_n 2, 1) := by decide +kernel
theorem dX13_another_34 : decode cX13_another 34 = .ok (.iload_n 3, 1) := by decide +kernel
theorem dX13_another_35 : decode cX13_another 35 = .ok (.iadd, 1) := by decide +kernel
theorem dX13_another_36 : decode cX13_another 36 = .ok (.ireturn, 1) := by decide +kernel
set_option maxRecDepth 20000 in
theorem ggX13_readPerson_X13_another : GoodIn wsX13_readPerson wsX13_another := goodIn_r _ [9, 4, 10, 11, 12, 13, 8, 14, 15, 16, 17, 18, 19, 20, 21, 22, 23, 24, 25, 26, 27, 28, 29, 30, 31, 32, 33, 34, 35, 36, 37, 38, 39, 40, 41, 42, 43, 44, 53, 54, 55, 56, 57, 58, 59, 60, 61, 62, 63, 64, 65, 66, 67, 68, 69, 70, 71, 72, 73, 74, 75, 76, 77, 78, 79, 80, 81, 82, 83, 84, 85, 86, 87, 88, 89, 90, 91, 92, 93, 94, 95, 96, 97, 98, 99, 100, 101, 102, 103, 104, 105, 106, 107, 108, 109, 110, 111, 112, 113, 114, 115, 116, 117, 118, 119] rfl (by decide +kernel)
set_option maxRecDepth 20000 in
theorem gX13_readPerson_X13_another : GoodIn wsX13_readPerson (wsV RX13 290 RX13 yX13_another wsX13_another) := goodIn_app (goodIn_of _ (by decide +kernel)) ggX13_readPerson_X13_another
set_option maxRecDepth 20000 in
theorem ggX13_readPerson_X13_readNumber : GoodIn wsX13_readPerson wsX13_readNumber := goodIn_r _ [48, 10, 49, 50, 51, 8, 52, 22, 29, 15, 23, 11, 12, 13, 14, 16, 17, 18, 19, 20, 21, 24, 25, 26, 27, 28, 30, 31, 32, 33, 34, 35, 36, 37, 38, 39, 40, 41, 42, 43, 44, 53, 54, 55, 56, 57, 58, 59, 60, 61, 62, 63, 64, 65, 66, 67, 68, 69, 70, 71, 72, 73, 74, 75, 76, 77, 78, 79, 80, 81, 82, 83, 84, 85, 86, 87, 88, 89, 90, 91, 92, 93, 94, 95, 96, 97, 98, 99, 100, 101, 102, 103, 104, 105, 106, 107, 108, 109, 110, 111, 112, 113, 114, 115, 116, 117, 118, 119] rfl (by decide +kernel)
set_option maxRecDepth 20000 in
theorem gX13_readPerson_X13_readNumber : GoodIn wsX13_readPerson (wsV RX13 253 RX13 yX13_readNumber wsX13_readNumber) := goodIn_app (goodIn_of _ (by decide +kernel)) ggX13_readPerson_X13_readNumber
theorem dX13_readPerson_0 : decode cX13_readPerson 0 = .ok (.aload_n 0, 1) := by decide +kernel
theorem dX13_readPerson_1 : decode cX13_readPerson 1 = .ok (.iconst 0, 1) := by decide +kernel
theorem dX13_readPerson_2 : decode cX13_readPerson 2 = .ok (.iconst 4, 1) := by decide +kernel
theorem dX13_readPerson_3 : decode cX13_readPerson 3 = .ok (.invokevirtual 290, 3) := by decide +kernel
theorem dX13_readPerson_6 : decode cX13_readPerson 6 = .ok (.istore_n 1, 1) := by decide +kernel
theorem dX13_readPerson_7 : decode cX13_readPerson 7 = .ok (.iload_n 1, 1) := by decide +kernel
theorem dX13_readPerson_8 : decode cX13_readPerson 8 = .ok (.iconst (-1), 1) := by decide +kernel
theorem dX13_readPerson_9 : decode cX13_readPerson 9 = .ok (.if_icmp .ne 4, 3) := by decide +kernel
theorem dX13_readPerson_12 : decode cX13_readPerson 12 = .ok (.return_, 1) := by decide +kernel
theorem dX13_readPerson_13 : decode cX13_readPerson 13 = .ok (.aload_n 0, 1) := by decide +kernel
theorem dX13_readPerson_14 : decode cX13_readPerson 14 = .ok (.getfield 44, 3) := by decide +kernel
theorem dX13_readPerson_17 : decode cX13_readPerson 17 = .ok (.iload_n 1, 1) := by decide +kernel
theorem dX13_readPerson_18 : decode cX13_readPerson 18 = .ok (.aload_n 0, 1) := by decide +kernel
theorem dX13_readPerson_19 : decode cX13_readPerson 19 = .ok (.iconst 1, 1) := by decide +kernel
theorem dX13_readPerson_20 : decode cX13_readPerson 20 = .ok (.sipush 300, 3) := by decide +kernel
theorem dX13_readPerson_23 : decode cX13_readPerson 23 = .ok (.invokevirtual 253, 3) := by decide +kernel
theorem dX13_readPerson_26 : decode cX13_readPerson 26 = .ok (.iastore, 1) := by decide +kernel
theorem dX13_readPerson_27 : decode cX13_readPerson 27 = .ok (.aload_n 0, 1) := by decide +kernel
theorem dX13_readPerson_28 : decode cX13_readPerson 28 = .ok (.getfield 47, 3) := by decide +kernel
theorem dX13_readPerson_31 : decode cX13_readPerson 31 = .ok (.iload_n 1, 1) := by decide +kernel
theorem dX13_readPerson_32 : decode cX13_readPerson 32 = .ok (.aload_n 0, 1) := by decide +kernel
theorem dX13_readPerson_33 : decode cX13_readPerson 33 = .ok (.iconst 0, 1) := by decide +kernel
theorem dX13_readPerson_34 : decode cX13_readPerson 34 = .ok (.bipush 9, 2) := by decide +kernel
theorem dX13_readPerson_36 : decode cX13_readPerson 36 = .ok (.invokevirtual 253, 3) := by decide +kernel
theorem dX13_readPerson_39 : decode cX13_readPerson 39 = .ok (.iastore, 1) := by decide +kernel
theorem dX13_readPerson_40 : decode cX13_readPerson 40 = .ok (.aload_n 0, 1) := by decide +kernel
theorem dX13_readPerson_41 : decode cX13_readPerson 41 = .ok (.getfield 50, 3) := by decide +kernel
theorem dX13_readPerson_44 : decode cX13_readPerson 44 = .ok (.iload_n 1, 1) := by decide +kernel
theorem dX13_readPerson_45 : decode cX13_readPerson 45 = .ok (.aload_n 0, 1) := by decide +kernel
theorem dX13_readPerson_46 : decode cX13_readPerson 46 = .ok (.iconst 0, 1) := by decide +kernel
theorem dX13_readPerson_47 : decode cX13_readPerson 47 = .ok (.bipush 30, 2) := by decide +kernel
theorem dX13_readPerson_49 : decode cX13_readPerson 49 = .ok (.invokevirtual 253, 3) := by decide +kernel
theorem dX13_readPerson_52 : decode cX13_readPerson 52 = .ok (.iastore, 1) := by decide +kernel
theorem dX13_readPerson_53 : decode cX13_readPerson 53 = .ok (.aload_n 0, 1) := by decide +kernel
theorem dX13_readPerson_54 : decode cX13_readPerson 54 = .ok (.getfield 40, 3) := by decide +kernel
theorem dX13_readPerson_57 : decode cX13_readPerson 57 = .ok (.bipush 7, 2) := by decide +kernel
theorem dX13_readPerson_59 : decode cX13_readPerson 59 = .ok (.dup2, 1) := by decide +kernel
theorem dX13_readPerson_60 : decode cX13_readPerson 60 = .ok (.iaload, 1) := by decide +kernel
theorem dX13_readPerson_61 : decode cX13_readPerson 61 = .ok (.iconst 1, 1) := by decide +kernel
theorem dX13_readPerson_62 : decode cX13_readPerson 62 = .ok (.iadd, 1) := by decide +kernel
theorem dX13_readPerson_63 : decode cX13_readPerson 63 = .ok (.iastore, 1) := by decide +kernel
theorem dX13_readPerson_64 : decode cX13_readPerson 64 = .ok (.return_, 1) := by decide +kernel
set_option maxRecDepth 20000 in
theorem ggX13_readCase_X13_another : GoodIn wsX13_readCase wsX13_another := goodIn_r _ [12, 2, 3, 13, 14, 15, 11, 16, 17, 18, 19, 20, 21, 22, 23, 24, 25, 26, 27, 28, 29, 30, 31, 32, 33, 34, 35, 36, 37, 38, 39, 40, 41, 42, 43, 44, 45, 46, 112, 113, 114, 115, 116, 117, 118, 119, 120, 121, 122, 123, 124, 125, 126, 127, 128, 129, 130, 131, 132, 133, 134, 135, 136, 137, 138, 139, 140, 141, 142, 143, 144, 145, 146, 147, 148, 149, 150, 151, 152, 153, 154, 155, 156, 157, 158, 159, 160, 161, 162, 163, 164, 165, 166, 167, 168, 169, 170, 171, 172, 173, 174, 175, 176, 177, 178] rfl (by decide +kernel)
set_option maxRecDepth 20000 in
theorem gX13_readCase_X13_another : GoodIn wsX13_readCase (wsV RX13 290 RX13 yX13_another wsX13_another) := goodIn_app (goodIn_of _ (by decide +kernel)) ggX13_readCase_X13_another
set_option maxRecDepth 20000 in
theorem ggX13_readCase_X13_oneOf : GoodIn wsX13_readCase wsX13_oneOf := goodIn_r _ [50, 3, 51, 52, 53, 11, 54, 24, 31, 17, 25, 13, 14, 15, 16, 18, 112, 113, 114, 115, 116, 117, 118, 119, 120, 121, 122, 123, 124, 125, 126, 127, 128, 129, 130, 131, 132, 133, 134, 135, 136, 137, 138, 139, 140, 141, 142, 143, 144, 145, 146, 147, 148, 149, 150, 151, 152, 153, 154, 155, 156, 157, 158, 159, 160, 161, 162, 163, 164, 165, 166, 167, 168, 169, 170, 171, 172, 173, 174, 175, 176, 177, 178] rfl (by decide +kernel)
set_option maxRecDepth 20000 in
theorem gX13_readCase_X13_oneOf : GoodIn wsX13_readCase (wsV RX13 293 RX13 yX13_oneOf wsX13_oneOf) := goodIn_app (goodIn_of _ (by decide +kernel)) ggX13_readCase_X13_oneOf
set_option maxRecDepth 20000 in
theorem ggX13_readCase_X13_stepOn : GoodIn wsX13_readCase wsX13_stepOn := goodIn_r _ [22, 23, 17, 24, 25, 26, 27, 28, 29, 30, 31, 32, 33, 34, 11, 35, 36, 37, 38, 39, 40, 41, 42, 43, 44, 45, 46, 112, 113, 114, 115, 116, 117, 118, 119, 120, 121, 122, 123, 124, 125, 126, 127, 128, 129, 130, 131, 132, 133, 134, 135, 136, 137, 138, 139, 140, 141, 142, 143, 144, 145, 146, 147, 148, 149, 150, 151, 152, 153, 154, 155, 156, 157, 158, 159, 160, 161, 162, 163, 164, 165, 166, 167, 168, 169, 170, 171, 172, 173, 174, 175, 176, 177, 178] rfl (by decide +kernel)
set_option maxRecDepth 20000 in
theorem gX13_readCase_X13_stepOn : GoodIn wsX13_readCase (wsV RX13 247 RX13 yX13_stepOn wsX13_stepOn) := goodIn_app (goodIn_of _ (by decide +kernel)) ggX13_readCase_X13_stepOn
set_option maxRecDepth 20000 in
theorem ggX13_readCase_X13_readNumber : GoodIn wsX13_readCase wsX13_readNumber := goodIn_r _ [58, 3, 51, 52, 53, 11, 54, 24, 31, 17, 25, 13, 14, 15, 16, 18, 19, 20, 21, 22, 23, 26, 27, 28, 29, 30, 32, 33, 34, 35, 36, 37, 38, 39, 40, 41, 42, 43, 44, 45, 46, 112, 113, 114, 115, 116, 117, 118, 119, 120, 121, 122, 123, 124, 125, 126, 127, 128, 129, 130, 131, 132, 133, 134, 135, 136, 137, 138, 139, 140, 141, 142, 143, 144, 145, 146, 147, 148, 149, 150, 151, 152, 153, 154, 155, 156, 157, 158, 159, 160, 161, 162, 163, 164, 165, 166, 167, 168, 169, 170, 171, 172, 173, 174, 175, 176, 177, 178] rfl (by decide +kernel)
set_option maxRecDepth 20000 in
theorem gX13_readCase_X13_readNumber : GoodIn wsX13_readCase (wsV RX13 253 RX13 yX13_readNumber wsX13_readNumber) := goodIn_app (goodIn_of _ (by decide +kernel)) ggX13_readCase_X13_readNumber
set_option maxRecDepth 20000 in
theorem ggX13_readCase_X13_is : GoodIn wsX13_readCase wsX13_is := goodIn_r _ [62, 3, 24, 31, 17, 37, 63, 64, 65, 66, 67, 68, 69, 70, 71, 72, 73, 74, 75, 76, 77, 78, 79, 80, 81, 82, 83, 84, 85, 86, 87, 88, 89, 90, 91, 92, 93, 94, 95, 96, 97, 98, 99, 100, 101, 102, 103, 104, 105, 106, 107, 108, 109, 110, 111, 112, 113, 114, 115, 116, 117, 118, 119, 120, 121, 122, 123, 124, 125, 126, 127, 128, 129, 130, 131, 132, 133, 134, 135, 136, 137, 138, 139, 140, 141, 142, 143, 144, 145, 146, 147, 148, 149, 150, 151, 152, 153, 154, 155, 156, 157, 158, 159, 160, 161, 162, 163, 164, 165, 166, 167, 168, 169, 170, 171, 172, 173, 174, 175, 176, 177, 178] rfl (by decide +kernel)
set_option maxRecDepth 20000 in
theorem gX13_readCase_X13_is : GoodIn wsX13_readCase (wsV RX13 236 RX13 yX13_is wsX13_is) := goodIn_app (goodIn_of _ (by decide +kernel)) ggX13_readCase_X13_is
theorem dX13_readCase_0 : decode cX13_readCase 0 = .ok (.aload_n 0, 1) := by decide +kernel
theorem dX13_readCase_1 : decode cX13_readCase 1 = .ok (.iconst 1, 1) := by decide +kernel
theorem dX13_readCase_2 : decode cX13_readCase 2 = .ok (.iconst 5, 1) := by decide +kernel
theorem dX13_readCase_3 : decode cX13_readCase 3 = .ok (.invokevirtual 290, 3) := by decide +kernel
theorem dX13_readCase_6 : decode cX13_readCase 6 = .ok (.istore_n 1, 1) := by decide +kernel
theorem dX13_readCase_7 : decode cX13_readCase 7 = .ok (.iload_n 1, 1) := by decide +kernel
theorem dX13_readCase_8 : decode cX13_readCase 8 = .ok (.iconst (-1), 1) := by decide +kernel
theorem dX13_readCase_9 : decode cX13_readCase 9 = .ok (.if_icmp .ne 4, 3) := by decide +kernel
theorem dX13_readCase_12 : decode cX13_readCase 12 = .ok (.return_, 1) := by decide +kernel
theorem dX13_readCase_13 : decode cX13_readCase 13 = .ok (.aload_n 0, 1) := by decide +kernel
theorem dX13_readCase_14 : decode cX13_readCase 14 = .ok (.getfield 53, 3) := by decide +kernel
theorem dX13_readCase_17 : decode cX13_readCase 17 = .ok (.iload_n 1, 1) := by decide +kernel
theorem dX13_readCase_18 : decode cX13_readCase 18 = .ok (.aload_n 0, 1) := by decide +kernel
theorem dX13_readCase_19 : decode cX13_readCase 19 = .ok (.aload_n 0, 1) := by decide +kernel
theorem dX13_readCase_20 : decode cX13_readCase 20 = .ok (.getfield 40, 3) := by decide +kernel
theorem dX13_readCase_23 : decode cX13_readCase 23 = .ok (.bipush 7, 2) := by decide +kernel
theorem dX13_readCase_25 : decode cX13_readCase 25 = .ok (.iaload, 1) := by decide +kernel
theorem dX13_readCase_26 : decode cX13_readCase 26 = .ok (.invokevirtual 293, 3) := by decide +kernel
theorem dX13_readCase_29 : decode cX13_readCase 29 = .ok (.iastore, 1) := by decide +kernel
theorem dX13_readCase_30 : decode cX13_readCase 30 = .ok (.aload_n 0, 1) := by decide +kernel
theorem dX13_readCase_31 : decode cX13_readCase 31 = .ok (.getfield 222, 3) := by decide +kernel
theorem dX13_readCase_34 : decode cX13_readCase 34 = .ok (.ifCond .ne 7, 3) := by decide +kernel
theorem dX13_readCase_37 : decode cX13_readCase 37 = .ok (.aload_n 0, 1) := by decide +kernel
theorem dX13_readCase_38 : decode cX13_readCase 38 = .ok (.invokevirtual 247, 3) := by decide +kernel
theorem dX13_readCase_41 : decode cX13_readCase 41 = .ok (.aload_n 0, 1) := by decide +kernel
theorem dX13_readCase_42 : decode cX13_readCase 42 = .ok (.getfield 56, 3) := by decide +kernel
theorem dX13_readCase_45 : decode cX13_readCase 45 = .ok (.iload_n 1, 1) := by decide +kernel
theorem dX13_readCase_46 : decode cX13_readCase 46 = .ok (.aload_n 0, 1) := by decide +kernel
theorem dX13_readCase_47 : decode cX13_readCase 47 = .ok (.iconst 0, 1) := by decide +kernel
theorem dX13_readCase_48 : decode cX13_readCase 48 = .ok (.sipush 200, 3) := by decide +kernel
theorem dX13_readCase_51 : decode cX13_readCase 51 = .ok (.invokevirtual 253, 3) := by decide +kernel
theorem dX13_readCase_54 : decode cX13_readCase 54 = .ok (.iastore, 1) := by decide +kernel
theorem dX13_readCase_55 : decode cX13_readCase 55 = .ok (.aload_n 0, 1) := by decide +kernel
theorem dX13_readCase_56 : decode cX13_readCase 56 = .ok (.getfield 58, 3) := by decide +kernel
theorem dX13_readCase_59 : decode cX13_readCase 59 = .ok (.iload_n 1, 1) := by decide +kernel
theorem dX13_readCase_60 : decode cX13_readCase 60 = .ok (.aload_n 0, 1) := by decide +kernel
theorem dX13_readCase_61 : decode cX13_readCase 61 = .ok (.iconst 0, 1) := by decide +kernel
theorem dX13_readCase_62 : decode cX13_readCase 62 = .ok (.bipush 60, 2) := by decide +kernel
theorem dX13_readCase_64 : decode cX13_readCase 64 = .ok (.invokevirtual 253, 3) := by decide +kernel
theorem dX13_readCase_67 : decode cX13_readCase 67 = .ok (.iastore, 1) := by decide +kernel
theorem dX13_readCase_68 : decode cX13_readCase 68 = .ok (.aload_n 0, 1) := by decide +kernel
theorem dX13_readCase_69 : decode cX13_readCase 69 = .ok (.getfield 61, 3) := by decide +kernel
theorem dX13_readCase_72 : decode cX13_readCase 72 = .ok (.iload_n 1, 1) := by decide +kernel
theorem dX13_readCase_73 : decode cX13_readCase 73 = .ok (.aload_n 0, 1) := by decide +kernel
theorem dX13_readCase_74 : decode cX13_readCase 74 = .ok (.iconst 0, 1) := by decide +kernel
theorem dX13_readCase_75 : decode cX13_readCase 75 = .ok (.bipush 99, 2) := by decide +kernel
theorem dX13_readCase_77 : decode cX13_readCase 77 = .ok (.invokevirtual 253, 3) := by decide +kernel
theorem dX13_readCase_80 : decode cX13_readCase 80 = .ok (.iastore, 1) := by decide +kernel
theorem dX13_readCase_81 : decode cX13_readCase 81 = .ok (.aload_n 0, 1) := by decide +kernel
theorem dX13_readCase_82 : decode cX13_readCase 82 = .ok (.getfield 64, 3) := by decide +kernel
theorem dX13_readCase_85 : decode cX13_readCase 85 = .ok (.iload_n 1, 1) := by decide +kernel
theorem dX13_readCase_86 : decode cX13_readCase 86 = .ok (.aload_n 0, 1) := by decide +kernel
theorem dX13_readCase_87 : decode cX13_readCase 87 = .ok (.ldc 35, 2) := by decide +kernel
theorem dX13_readCase_89 : decode cX13_readCase 89 = .ok (.invokevirtual 236, 3) := by decide +kernel
theorem dX13_readCase_92 : decode cX13_readCase 92 = .ok (.ifCond .eq 7, 3) := by decide +kernel
theorem dX13_readCase_95 : decode cX13_readCase 95 = .ok (.iconst 1, 1) := by decide +kernel
theorem dX13_readCase_96 : decode cX13_readCase 96 = .ok (.goto 4, 3) := by decide +kernel
theorem dX13_readCase_99 : decode cX13_readCase 99 = .ok (.iconst 0, 1) := by decide +kernel
theorem dX13_readCase_100 : decode cX13_readCase 100 = .ok (.iastore, 1) := by decide +kernel
theorem dX13_readCase_101 : decode cX13_readCase 101 = .ok (.aload_n 0, 1) := by decide +kernel
theorem dX13_readCase_102 : decode cX13_readCase 102 = .ok (.getfield 64, 3) := by decide +kernel
theorem dX13_readCase_105 : decode cX13_readCase 105 = .ok (.iload_n 1, 1) := by decide +kernel
theorem dX13_readCase_106 : decode cX13_readCase 106 = .ok (.iaload, 1) := by decide +kernel
theorem dX13_readCase_107 : decode cX13_readCase 107 = .ok (.iconst 1, 1) := by decide +kernel
theorem dX13_readCase_108 : decode cX13_readCase 108 = .ok (.if_icmp .ne 7, 3) := by decide +kernel
theorem dX13_readCase_111 : decode cX13_readCase 111 = .ok (.aload_n 0, 1) := by decide +kernel
theorem dX13_readCase_112 : decode cX13_readCase 112 = .ok (.invokevirtual 247, 3) := by decide +kernel
theorem dX13_readCase_115 : decode cX13_readCase 115 = .ok (.aload_n 0, 1) := by decide +kernel
theorem dX13_readCase_116 : decode cX13_readCase 116 = .ok (.getfield 40, 3) := by decide +kernel
theorem dX13_readCase_119 : decode cX13_readCase 119 = .ok (.bipush 8, 2) := by decide +kernel
theorem dX13_readCase_121 : decode cX13_readCase 121 = .ok (.dup2, 1) := by decide +kernel
theorem dX13_readCase_122 : decode cX13_readCase 122 = .ok (.iaload, 1) := by decide +kernel
theorem dX13_readCase_123 : decode cX13_readCase 123 = .ok (.iconst 1, 1) := by decide +kernel
theorem dX13_readCase_124 : decode cX13_readCase 124 = .ok (.iadd, 1) := by decide +kernel
theorem dX13_readCase_125 : decode cX13_readCase 125 = .ok (.iastore, 1) := by decide +kernel
theorem dX13_readCase_126 : decode cX13_readCase 126 = .ok (.return_, 1) := by decide +kernel
set_option maxRecDepth 20000 in
theorem ggX13_readThing_X13_another : GoodIn wsX13_readThing wsX13_another := goodIn_r _ [20, 10, 12, 21, 22, 23, 19, 24, 25, 26, 27, 28, 29, 30, 31, 32, 33, 34, 4, 5, 6, 7, 35, 36, 37, 38, 39, 40, 41, 42, 43, 44, 45, 46, 47, 48, 49, 50, 63, 64, 65, 66, 67, 68, 69, 70, 71, 72, 73, 74, 75, 76, 77, 78, 79, 80, 81, 82, 83, 84, 85, 86, 87, 88, 89, 90, 91, 92, 93, 94, 95, 96, 97, 98, 99, 100, 101, 102, 103, 104, 105, 106, 107, 108, 109, 110, 111, 112, 113, 114, 115, 116, 117, 118, 119, 120, 121, 122, 123, 124, 125, 126, 127, 128, 129] rfl (by decide +kernel)
set_option maxRecDepth 20000 in
theorem gX13_readThing_X13_another : GoodIn wsX13_readThing (wsV RX13 290 RX13 yX13_another wsX13_another) := goodIn_app (goodIn_of _ (by decide +kernel)) ggX13_readThing_X13_another
set_option maxRecDepth 20000 in
theorem ggX13_readThing_X13_readNumber : GoodIn wsX13_readThing wsX13_readNumber := goodIn_r _ [54, 12, 55, 56, 57, 19, 58, 32, 35, 25, 33, 21, 22, 23, 24, 26, 27, 28, 29, 30, 31, 34, 4, 5, 6, 7, 36, 37, 38, 39, 40, 41, 42, 43, 44, 45, 46, 47, 48, 49, 50, 63, 64, 65, 66, 67, 68, 69, 70, 71, 72, 73, 74, 75, 76, 77, 78, 79, 80, 81, 82, 83, 84, 85, 86, 87, 88, 89, 90, 91, 92, 93, 94, 95, 96, 97, 98, 99, 100, 101, 102, 103, 104, 105, 106, 107, 108, 109, 110, 111, 112, 113, 114, 115, 116, 117, 118, 119, 120, 121, 122, 123, 124, 125, 126, 127, 128, 129] rfl (by decide +kernel)
set_option maxRecDepth 20000 in
theorem gX13_readThing_X13_readNumber : GoodIn wsX13_readThing (wsV RX13 253 RX13 yX13_readNumber wsX13_readNumber) := goodIn_app (goodIn_of _ (by decide +kernel)) ggX13_readThing_X13_readNumber
set_option maxRecDepth 20000 in
theorem ggX13_readThing_X13_oneOf : GoodIn wsX13_readThing wsX13_oneOf := goodIn_r _ [62, 12, 55, 56, 57, 19, 58, 32, 35, 25, 33, 21, 22, 23, 24, 26, 63, 64, 65, 66, 67, 68, 69, 70, 71, 72, 73, 74, 75, 76, 77, 78, 79, 80, 81, 82, 83, 84, 85, 86, 87, 88, 89, 90, 91, 92, 93, 94, 95, 96, 97, 98, 99, 100, 101, 102, 103, 104, 105, 106, 107, 108, 109, 110, 111, 112, 113, 114, 115, 116, 117, 118, 119, 120, 121, 122, 123, 124, 125, 126, 127, 128, 129] rfl (by decide +kernel)
set_option maxRecDepth 20000 in
theorem gX13_readThing_X13_oneOf : GoodIn wsX13_readThing (wsV RX13 293 RX13 yX13_oneOf wsX13_oneOf) := goodIn_app (goodIn_of _ (by decide +kernel)) ggX13_readThing_X13_oneOf
set_option maxRecDepth 20000 in
theorem ggX13_readThing_X13_wrong : GoodIn wsX13_readThing wsX13_wrong := goodIn_r _ [24, 12, 25, 26, 63, 64, 65, 66, 67, 68, 69, 70, 71, 72, 73, 74, 75, 76, 77, 78, 79, 80, 81, 82, 83, 84, 85, 86, 87, 88, 89, 90, 91, 92, 93, 94, 95, 96, 97, 98, 99, 100, 101, 102, 103, 104, 105, 106, 107, 108, 109, 110, 111, 112, 113, 114, 115, 116, 117, 118, 119, 120, 121, 122, 123, 124, 125, 126, 127, 128, 129] rfl (by decide +kernel)
set_option maxRecDepth 20000 in
theorem gX13_readThing_X13_wrong : GoodIn wsX13_readThing (wsV RX13 243 RX13 yX13_wrong wsX13_wrong) := goodIn_app (goodIn_of _ (by decide +kernel)) ggX13_readThing_X13_wrong
set_option maxRecDepth 20000 in
theorem ggX13_readThing_X13_stepOn : GoodIn wsX13_readThing wsX13_stepOn := goodIn_r _ [30, 31, 25, 32, 33, 34, 4, 5, 6, 7, 35, 36, 37, 38, 19, 39, 40, 41, 42, 43, 44, 45, 46, 47, 48, 49, 50, 63, 64, 65, 66, 67, 68, 69, 70, 71, 72, 73, 74, 75, 76, 77, 78, 79, 80, 81, 82, 83, 84, 85, 86, 87, 88, 89, 90, 91, 92, 93, 94, 95, 96, 97, 98, 99, 100, 101, 102, 103, 104, 105, 106, 107, 108, 109, 110, 111, 112, 113, 114, 115, 116, 117, 118, 119, 120, 121, 122, 123, 124, 125, 126, 127, 128, 129] rfl (by decide +kernel)
set_option maxRecDepth 20000 in
theorem gX13_readThing_X13_stepOn : GoodIn wsX13_readThing (wsV RX13 247 RX13 yX13_stepOn wsX13_stepOn) := goodIn_app (goodIn_of _ (by decide +kernel)) ggX13_readThing_X13_stepOn
theorem dX13_readThing_0 : decode cX13_readThing 0 = .ok (.aload_n 0, 1) := by decide +kernel
theorem dX13_readThing_1 : decode cX13_readThing 1 = .ok (.iconst 2, 1) := by decide +kernel
theorem dX13_readThing_2 : decode cX13_readThing 2 = .ok (.bipush 12, 2) := by decide +kernel
theorem dX13_readThing_4 : decode cX13_readThing 4 = .ok (.invokevirtual 290, 3) := by decide +kernel
theorem dX13_readThing_7 : decode cX13_readThing 7 = .ok (.istore_n 2, 1) := by decide +kernel
theorem dX13_readThing_8 : decode cX13_readThing 8 = .ok (.iload_n 2, 1) := by decide +kernel
theorem dX13_readThing_9 : decode cX13_readThing 9 = .ok (.iconst (-1), 1) := by decide +kernel
theorem dX13_readThing_10 : decode cX13_readThing 10 = .ok (.if_icmp .ne 4, 3) := by decide +kernel
theorem dX13_readThing_13 : decode cX13_readThing 13 = .ok (.return_, 1) := by decide +kernel
theorem dX13_readThing_14 : decode cX13_readThing 14 = .ok (.aload_n 0, 1) := by decide +kernel
theorem dX13_readThing_15 : decode cX13_readThing 15 = .ok (.getfield 66, 3) := by decide +kernel
theorem dX13_readThing_18 : decode cX13_readThing 18 = .ok (.iload_n 2, 1) := by decide +kernel
theorem dX13_readThing_19 : decode cX13_readThing 19 = .ok (.iload_n 1, 1) := by decide +kernel
theorem dX13_readThing_20 : decode cX13_readThing 20 = .ok (.iastore, 1) := by decide +kernel
theorem dX13_readThing_21 : decode cX13_readThing 21 = .ok (.aload_n 0, 1) := by decide +kernel
theorem dX13_readThing_22 : decode cX13_readThing 22 = .ok (.getfield 69, 3) := by decide +kernel
theorem dX13_readThing_25 : decode cX13_readThing 25 = .ok (.iload_n 2, 1) := by decide +kernel
theorem dX13_readThing_26 : decode cX13_readThing 26 = .ok (.aload_n 0, 1) := by decide +kernel
theorem dX13_readThing_27 : decode cX13_readThing 27 = .ok (.iconst 0, 1) := by decide +kernel
theorem dX13_readThing_28 : decode cX13_readThing 28 = .ok (.bipush 60, 2) := by decide +kernel
theorem dX13_readThing_30 : decode cX13_readThing 30 = .ok (.invokevirtual 253, 3) := by decide +kernel
theorem dX13_readThing_33 : decode cX13_readThing 33 = .ok (.iastore, 1) := by decide +kernel
theorem dX13_readThing_34 : decode cX13_readThing 34 = .ok (.aload_n 0, 1) := by decide +kernel
theorem dX13_readThing_35 : decode cX13_readThing 35 = .ok (.getfield 72, 3) := by decide +kernel
theorem dX13_readThing_38 : decode cX13_readThing 38 = .ok (.iload_n 2, 1) := by decide +kernel
theorem dX13_readThing_39 : decode cX13_readThing 39 = .ok (.aload_n 0, 1) := by decide +kernel
theorem dX13_readThing_40 : decode cX13_readThing 40 = .ok (.iconst 0, 1) := by decide +kernel
theorem dX13_readThing_41 : decode cX13_readThing 41 = .ok (.bipush 9, 2) := by decide +kernel
theorem dX13_readThing_43 : decode cX13_readThing 43 = .ok (.aload_n 0, 1) := by decide +kernel
theorem dX13_readThing_44 : decode cX13_readThing 44 = .ok (.getfield 69, 3) := by decide +kernel
theorem dX13_readThing_47 : decode cX13_readThing 47 = .ok (.iload_n 2, 1) := by decide +kernel
theorem dX13_readThing_48 : decode cX13_readThing 48 = .ok (.iaload, 1) := by decide +kernel
theorem dX13_readThing_49 : decode cX13_readThing 49 = .ok (.invokestatic 210, 3) := by decide +kernel
theorem dX13_readThing_52 : decode cX13_readThing 52 = .ok (.invokevirtual 253, 3) := by decide +kernel
theorem dX13_readThing_55 : decode cX13_readThing 55 = .ok (.iastore, 1) := by decide +kernel
theorem dX13_readThing_56 : decode cX13_readThing 56 = .ok (.aload_n 0, 1) := by decide +kernel
theorem dX13_readThing_57 : decode cX13_readThing 57 = .ok (.getfield 75, 3) := by decide +kernel
theorem dX13_readThing_60 : decode cX13_readThing 60 = .ok (.iload_n 2, 1) := by decide +kernel
theorem dX13_readThing_61 : decode cX13_readThing 61 = .ok (.aload_n 0, 1) := by decide +kernel
theorem dX13_readThing_62 : decode cX13_readThing 62 = .ok (.iconst 0, 1) := by decide +kernel
theorem dX13_readThing_63 : decode cX13_readThing 63 = .ok (.bipush 20, 2) := by decide +kernel
theorem dX13_readThing_65 : decode cX13_readThing 65 = .ok (.invokevirtual 253, 3) := by decide +kernel
theorem dX13_readThing_68 : decode cX13_readThing 68 = .ok (.iastore, 1) := by decide +kernel
theorem dX13_readThing_69 : decode cX13_readThing 69 = .ok (.aload_n 0, 1) := by decide +kernel
theorem dX13_readThing_70 : decode cX13_readThing 70 = .ok (.getfield 78, 3) := by decide +kernel
theorem dX13_readThing_73 : decode cX13_readThing 73 = .ok (.iload_n 2, 1) := by decide +kernel
theorem dX13_readThing_74 : decode cX13_readThing 74 = .ok (.aload_n 0, 1) := by decide +kernel
theorem dX13_readThing_75 : decode cX13_readThing 75 = .ok (.iconst 0, 1) := by decide +kernel
theorem dX13_readThing_76 : decode cX13_readThing 76 = .ok (.sipush 999, 3) := by decide +kernel
theorem dX13_readThing_79 : decode cX13_readThing 79 = .ok (.invokevirtual 253, 3) := by decide +kernel
theorem dX13_readThing_82 : decode cX13_readThing 82 = .ok (.iastore, 1) := by decide +kernel
theorem dX13_readThing_83 : decode cX13_readThing 83 = .ok (.aload_n 0, 1) := by decide +kernel
theorem dX13_readThing_84 : decode cX13_readThing 84 = .ok (.aload_n 0, 1) := by decide +kernel
theorem dX13_readThing_85 : decode cX13_readThing 85 = .ok (.getfield 40, 3) := by decide +kernel
theorem dX13_readThing_88 : decode cX13_readThing 88 = .ok (.bipush 8, 2) := by decide +kernel
theorem dX13_readThing_90 : decode cX13_readThing 90 = .ok (.iaload, 1) := by decide +kernel
theorem dX13_readThing_91 : decode cX13_readThing 91 = .ok (.invokevirtual 293, 3) := by decide +kernel
theorem dX13_readThing_94 : decode cX13_readThing 94 = .ok (.istore_n 3, 1) := by decide +kernel
theorem dX13_readThing_95 : decode cX13_readThing 95 = .ok (.aload_n 0, 1) := by decide +kernel
theorem dX13_readThing_96 : decode cX13_readThing 96 = .ok (.getfield 75, 3) := by decide +kernel
theorem dX13_readThing_99 : decode cX13_readThing 99 = .ok (.iload_n 2, 1) := by decide +kernel
theorem dX13_readThing_100 : decode cX13_readThing 100 = .ok (.iaload, 1) := by decide +kernel
theorem dX13_readThing_101 : decode cX13_readThing 101 = .ok (.istore 4, 2) := by decide +kernel
theorem dX13_readThing_103 : decode cX13_readThing 103 = .ok (.bipush 12, 2) := by decide +kernel
theorem dX13_readThing_105 : decode cX13_readThing 105 = .ok (.istore 5, 2) := by decide +kernel
theorem dX13_readThing_107 : decode cX13_readThing 107 = .ok (.iload 5, 2) := by decide +kernel
theorem dX13_readThing_109 : decode cX13_readThing 109 = .ok (.iload_n 2, 1) := by decide +kernel
theorem dX13_readThing_110 : decode cX13_readThing 110 = .ok (.if_icmp .ge 36, 3) := by decide +kernel
theorem dX13_readThing_113 : decode cX13_readThing 113 = .ok (.iload 4, 2) := by decide +kernel
theorem dX13_readThing_115 : decode cX13_readThing 115 = .ok (.aload_n 0, 1) := by decide +kernel
theorem dX13_readThing_116 : decode cX13_readThing 116 = .ok (.getfield 84, 3) := by decide +kernel
theorem dX13_readThing_119 : decode cX13_readThing 119 = .ok (.iload 5, 2) := by decide +kernel
theorem dX13_readThing_121 : decode cX13_readThing 121 = .ok (.iaload, 1) := by decide +kernel
theorem dX13_readThing_122 : decode cX13_readThing 122 = .ok (.iload_n 3, 1) := by decide +kernel
theorem dX13_readThing_123 : decode cX13_readThing 123 = .ok (.if_icmp .ne 13, 3) := by decide +kernel
theorem dX13_readThing_126 : decode cX13_readThing 126 = .ok (.aload_n 0, 1) := by decide +kernel
theorem dX13_readThing_127 : decode cX13_readThing 127 = .ok (.getfield 75, 3) := by decide +kernel
theorem dX13_readThing_130 : decode cX13_readThing 130 = .ok (.iload 5, 2) := by decide +kernel
theorem dX13_readThing_132 : decode cX13_readThing 132 = .ok (.iaload, 1) := by decide +kernel
theorem dX13_readThing_133 : decode cX13_readThing 133 = .ok (.goto 4, 3) := by decide +kernel
theorem dX13_readThing_136 : decode cX13_readThing 136 = .ok (.iconst 0, 1) := by decide +kernel
theorem dX13_readThing_137 : decode cX13_readThing 137 = .ok (.iadd, 1) := by decide +kernel
theorem dX13_readThing_138 : decode cX13_readThing 138 = .ok (.istore 4, 2) := by decide +kernel
theorem dX13_readThing_140 : decode cX13_readThing 140 = .ok (.iinc 5 1, 3) := by decide +kernel
theorem dX13_readThing_143 : decode cX13_readThing 143 = .ok (.goto (-36), 3) := by decide +kernel
theorem dX13_readThing_146 : decode cX13_readThing 146 = .ok (.aload_n 0, 1) := by decide +kernel
theorem dX13_readThing_147 : decode cX13_readThing 147 = .ok (.getfield 222, 3) := by decide +kernel
theorem dX13_readThing_150 : decode cX13_readThing 150 = .ok (.ifCond .ne 39, 3) := by decide +kernel
theorem dX13_readThing_153 : decode cX13_readThing 153 = .ok (.iload_n 1, 1) := by decide +kernel
theorem dX13_readThing_154 : decode cX13_readThing 154 = .ok (.iconst 2, 1) := by decide +kernel
theorem dX13_readThing_155 : decode cX13_readThing 155 = .ok (.if_icmp .ne 15, 3) := by decide +kernel
theorem dX13_readThing_158 : decode cX13_readThing 158 = .ok (.aload_n 0, 1) := by decide +kernel
theorem dX13_readThing_159 : decode cX13_readThing 159 = .ok (.getfield 64, 3) := by decide +kernel
theorem dX13_readThing_162 : decode cX13_readThing 162 = .ok (.iconst 5, 1) := by decide +kernel
theorem dX13_readThing_163 : decode cX13_readThing 163 = .ok (.iload_n 3, 1) := by decide +kernel
theorem dX13_readThing_164 : decode cX13_readThing 164 = .ok (.iadd, 1) := by decide +kernel
theorem dX13_readThing_165 : decode cX13_readThing 165 = .ok (.iaload, 1) := by decide +kernel
theorem dX13_readThing_166 : decode cX13_readThing 166 = .ok (.iconst 1, 1) := by decide +kernel
theorem dX13_readThing_167 : decode cX13_readThing 167 = .ok (.if_icmp .eq 16, 3) := by decide +kernel
theorem dX13_readThing_170 : decode cX13_readThing 170 = .ok (.iload 4, 2) := by decide +kernel
theorem dX13_readThing_172 : decode cX13_readThing 172 = .ok (.aload_n 0, 1) := by decide +kernel
theorem dX13_readThing_173 : decode cX13_readThing 173 = .ok (.getfield 58, 3) := by decide +kernel
theorem dX13_readThing_176 : decode cX13_readThing 176 = .ok (.iconst 5, 1) := by decide +kernel
theorem dX13_readThing_177 : decode cX13_readThing 177 = .ok (.iload_n 3, 1) := by decide +kernel
theorem dX13_readThing_178 : decode cX13_readThing 178 = .ok (.iadd, 1) := by decide +kernel
theorem dX13_readThing_179 : decode cX13_readThing 179 = .ok (.iaload, 1) := by decide +kernel
theorem dX13_readThing_180 : decode cX13_readThing 180 = .ok (.if_icmp .le 9, 3) := by decide +kernel
theorem dX13_readThing_183 : decode cX13_readThing 183 = .ok (.aload_n 0, 1) := by decide +kernel
theorem dX13_readThing_184 : decode cX13_readThing 184 = .ok (.bipush 6, 2) := by decide +kernel
theorem dX13_readThing_186 : decode cX13_readThing 186 = .ok (.invokevirtual 243, 3) := by decide +kernel
theorem dX13_readThing_189 : decode cX13_readThing 189 = .ok (.aload_n 0, 1) := by decide +kernel
theorem dX13_readThing_190 : decode cX13_readThing 190 = .ok (.getfield 222, 3) := by decide +kernel
theorem dX13_readThing_193 : decode cX13_readThing 193 = .ok (.ifCond .ne 7, 3) := by decide +kernel
theorem dX13_readThing_196 : decode cX13_readThing 196 = .ok (.aload_n 0, 1) := by decide +kernel
theorem dX13_readThing_197 : decode cX13_readThing 197 = .ok (.invokevirtual 247, 3) := by decide +kernel
theorem dX13_readThing_200 : decode cX13_readThing 200 = .ok (.aload_n 0, 1) := by decide +kernel
theorem dX13_readThing_201 : decode cX13_readThing 201 = .ok (.getfield 84, 3) := by decide +kernel
theorem dX13_readThing_204 : decode cX13_readThing 204 = .ok (.iload_n 2, 1) := by decide +kernel
theorem dX13_readThing_205 : decode cX13_readThing 205 = .ok (.iload_n 3, 1) := by decide +kernel
theorem dX13_readThing_206 : decode cX13_readThing 206 = .ok (.iastore, 1) := by decide +kernel
theorem dX13_readThing_207 : decode cX13_readThing 207 = .ok (.aload_n 0, 1) := by decide +kernel
theorem dX13_readThing_208 : decode cX13_readThing 208 = .ok (.getfield 81, 3) := by decide +kernel
theorem dX13_readThing_211 : decode cX13_readThing 211 = .ok (.iload_n 2, 1) := by decide +kernel
theorem dX13_readThing_212 : decode cX13_readThing 212 = .ok (.iload_n 1, 1) := by decide +kernel
theorem dX13_readThing_213 : decode cX13_readThing 213 = .ok (.iconst 1, 1) := by decide +kernel
theorem dX13_readThing_214 : decode cX13_readThing 214 = .ok (.if_icmp .ne 13, 3) := by decide +kernel
theorem dX13_readThing_217 : decode cX13_readThing 217 = .ok (.aload_n 0, 1) := by decide +kernel
theorem dX13_readThing_218 : decode cX13_readThing 218 = .ok (.iconst 1, 1) := by decide +kernel
theorem dX13_readThing_219 : decode cX13_readThing 219 = .ok (.bipush 9, 2) := by decide +kernel
theorem dX13_readThing_221 : decode cX13_readThing 221 = .ok (.invokevirtual 253, 3) := by decide +kernel
theorem dX13_readThing_224 : decode cX13_readThing 224 = .ok (.goto 4, 3) := by decide +kernel
theorem dX13_readThing_227 : decode cX13_readThing 227 = .ok (.iconst 0, 1) := by decide +kernel
theorem dX13_readThing_228 : decode cX13_readThing 228 = .ok (.iastore, 1) := by decide +kernel
theorem dX13_readThing_229 : decode cX13_readThing 229 = .ok (.aload_n 0, 1) := by decide +kernel
theorem dX13_readThing_230 : decode cX13_readThing 230 = .ok (.getfield 40, 3) := by decide +kernel
theorem dX13_readThing_233 : decode cX13_readThing 233 = .ok (.bipush 9, 2) := by decide +kernel
theorem dX13_readThing_235 : decode cX13_readThing 235 = .ok (.dup2, 1) := by decide +kernel
theorem dX13_readThing_236 : decode cX13_readThing 236 = .ok (.iaload, 1) := by decide +kernel
theorem dX13_readThing_237 : decode cX13_readThing 237 = .ok (.iconst 1, 1) := by decide +kernel
theorem dX13_readThing_238 : decode cX13_readThing 238 = .ok (.iadd, 1) := by decide +kernel
theorem dX13_readThing_239 : decode cX13_readThing 239 = .ok (.iastore, 1) := by decide +kernel
theorem dX13_readThing_240 : decode cX13_readThing 240 = .ok (.return_, 1) := by decide +kernel
set_option maxRecDepth 20000 in
theorem ggX13_readPost_X13_another : GoodIn wsX13_readPost wsX13_another := goodIn_r _ [9, 4, 2, 10, 11, 12, 8, 13, 14, 15, 16, 17, 18, 19, 20, 21, 22, 23, 24, 25, 26, 27, 28, 29, 30, 31, 32, 33, 34, 35, 36, 37, 38, 39, 40, 41, 42, 43, 52, 53, 54, 55, 56, 57, 58, 59, 60, 61, 62, 63, 64, 65, 66, 67, 68, 69, 70, 71, 72, 73, 74, 75, 76, 77, 78, 79, 80, 81, 82, 83, 84, 85, 86, 87, 88, 89, 90, 91, 92, 93, 94, 95, 96, 97, 98, 99, 100, 101, 102, 103, 104, 105, 106, 107, 108, 109, 110, 111, 112, 113, 114, 115, 116, 117, 118] rfl (by decide +kernel)
set_option maxRecDepth 20000 in
theorem gX13_readPost_X13_another : GoodIn wsX13_readPost (wsV RX13 290 RX13 yX13_another wsX13_another) := goodIn_app (goodIn_of _ (by decide +kernel)) ggX13_readPost_X13_another
set_option maxRecDepth 20000 in
theorem ggX13_readPost_X13_numberNow : GoodIn wsX13_readPost wsX13_numberNow := goodIn_r _ [47, 2, 21, 28, 14, 22, 10, 11, 12, 8, 13, 15, 52, 53, 54, 55, 56, 57, 58, 59, 60, 61, 62, 63, 64, 65, 66, 67, 68, 69, 70, 71, 72, 73, 74, 75, 76, 77, 78, 79, 80, 81, 82, 83, 84, 85, 86, 87, 88, 89, 90, 91, 92, 93, 94, 95, 96, 97, 98, 99, 100, 101, 102, 103, 104, 105, 106, 107, 108, 109, 110, 111, 112, 113, 114, 115, 116, 117, 118] rfl (by decide +kernel)
set_option maxRecDepth 20000 in
theorem gX13_readPost_X13_numberNow : GoodIn wsX13_readPost (wsV RX13 250 RX13 yX13_numberNow wsX13_numberNow) := goodIn_app (goodIn_of _ (by decide +kernel)) ggX13_readPost_X13_numberNow
set_option maxRecDepth 20000 in
theorem ggX13_readPost_X13_wrong : GoodIn wsX13_readPost wsX13_wrong := goodIn_r _ [13, 2, 14, 15, 52, 53, 54, 55, 56, 57, 58, 59, 60, 61, 62, 63, 64, 65, 66, 67, 68, 69, 70, 71, 72, 73, 74, 75, 76, 77, 78, 79, 80, 81, 82, 83, 84, 85, 86, 87, 88, 89, 90, 91, 92, 93, 94, 95, 96, 97, 98, 99, 100, 101, 102, 103, 104, 105, 106, 107, 108, 109, 110, 111, 112, 113, 114, 115, 116, 117, 118] rfl (by decide +kernel)
set_option maxRecDepth 20000 in
theorem gX13_readPost_X13_wrong : GoodIn wsX13_readPost (wsV RX13 243 RX13 yX13_wrong wsX13_wrong) := goodIn_app (goodIn_of _ (by decide +kernel)) ggX13_readPost_X13_wrong
set_option maxRecDepth 20000 in
theorem ggX13_readPost_X13_stepOn : GoodIn wsX13_readPost wsX13_stepOn := goodIn_r _ [19, 20, 14, 21, 22, 23, 24, 25, 26, 27, 28, 29, 30, 31, 8, 32, 33, 34, 35, 36, 37, 38, 39, 40, 41, 42, 43, 52, 53, 54, 55, 56, 57, 58, 59, 60, 61, 62, 63, 64, 65, 66, 67, 68, 69, 70, 71, 72, 73, 74, 75, 76, 77, 78, 79, 80, 81, 82, 83, 84, 85, 86, 87, 88, 89, 90, 91, 92, 93, 94, 95, 96, 97, 98, 99, 100, 101, 102, 103, 104, 105, 106, 107, 108, 109, 110, 111, 112, 113, 114, 115, 116, 117, 118] rfl (by decide +kernel)
set_option maxRecDepth 20000 in
theorem gX13_readPost_X13_stepOn : GoodIn wsX13_readPost (wsV RX13 247 RX13 yX13_stepOn wsX13_stepOn) := goodIn_app (goodIn_of _ (by decide +kernel)) ggX13_readPost_X13_stepOn
set_option maxRecDepth 20000 in
theorem ggX13_readPost_X13_readNumber : GoodIn wsX13_readPost wsX13_readNumber := goodIn_r _ [51, 2, 44, 45, 46, 8, 47, 21, 28, 14, 22, 10, 11, 12, 13, 15, 16, 17, 18, 19, 20, 23, 24, 25, 26, 27, 29, 30, 31, 32, 33, 34, 35, 36, 37, 38, 39, 40, 41, 42, 43, 52, 53, 54, 55, 56, 57, 58, 59, 60, 61, 62, 63, 64, 65, 66, 67, 68, 69, 70, 71, 72, 73, 74, 75, 76, 77, 78, 79, 80, 81, 82, 83, 84, 85, 86, 87, 88, 89, 90, 91, 92, 93, 94, 95, 96, 97, 98, 99, 100, 101, 102, 103, 104, 105, 106, 107, 108, 109, 110, 111, 112, 113, 114, 115, 116, 117, 118] rfl (by decide +kernel)
set_option maxRecDepth 20000 in
theorem gX13_readPost_X13_readNumber : GoodIn wsX13_readPost (wsV RX13 253 RX13 yX13_readNumber wsX13_readNumber) := goodIn_app (goodIn_of _ (by decide +kernel)) ggX13_readPost_X13_readNumber
theorem dX13_readPost_0 : decode cX13_readPost 0 = .ok (.aload_n 0, 1) := by decide +kernel
theorem dX13_readPost_1 : decode cX13_readPost 1 = .ok (.iconst 3, 1) := by decide +kernel
theorem dX13_readPost_2 : decode cX13_readPost 2 = .ok (.bipush 6, 2) := by decide +kernel
theorem dX13_readPost_4 : decode cX13_readPost 4 = .ok (.invokevirtual 290, 3) := by decide +kernel
theorem dX13_readPost_7 : decode cX13_readPost 7 = .ok (.istore_n 1, 1) := by decide +kernel
theorem dX13_readPost_8 : decode cX13_readPost 8 = .ok (.iload_n 1, 1) := by decide +kernel
theorem dX13_readPost_9 : decode cX13_readPost 9 = .ok (.iconst (-1), 1) := by decide +kernel
theorem dX13_readPost_10 : decode cX13_readPost 10 = .ok (.if_icmp .ne 4, 3) := by decide +kernel
theorem dX13_readPost_13 : decode cX13_readPost 13 = .ok (.return_, 1) := by decide +kernel
theorem dX13_readPost_14 : decode cX13_readPost 14 = .ok (.aload_n 0, 1) := by decide +kernel
theorem dX13_readPost_15 : decode cX13_readPost 15 = .ok (.getfield 87, 3) := by decide +kernel
theorem dX13_readPost_18 : decode cX13_readPost 18 = .ok (.iload_n 1, 1) := by decide +kernel
theorem dX13_readPost_19 : decode cX13_readPost 19 = .ok (.aload_n 0, 1) := by decide +kernel
theorem dX13_readPost_20 : decode cX13_readPost 20 = .ok (.iconst 1, 1) := by decide +kernel
theorem dX13_readPost_21 : decode cX13_readPost 21 = .ok (.bipush 99, 2) := by decide +kernel
theorem dX13_readPost_23 : decode cX13_readPost 23 = .ok (.invokevirtual 250, 3) := by decide +kernel
theorem dX13_readPost_26 : decode cX13_readPost 26 = .ok (.iastore, 1) := by decide +kernel
theorem dX13_readPost_27 : decode cX13_readPost 27 = .ok (.aload_n 0, 1) := by decide +kernel
theorem dX13_readPost_28 : decode cX13_readPost 28 = .ok (.getfield 222, 3) := by decide +kernel
theorem dX13_readPost_31 : decode cX13_readPost 31 = .ok (.ifCond .ne 31, 3) := by decide +kernel
theorem dX13_readPost_34 : decode cX13_readPost 34 = .ok (.iload_n 1, 1) := by decide +kernel
theorem dX13_readPost_35 : decode cX13_readPost 35 = .ok (.bipush 6, 2) := by decide +kernel
theorem dX13_readPost_37 : decode cX13_readPost 37 = .ok (.if_icmp .le 25, 3) := by decide +kernel
theorem dX13_readPost_40 : decode cX13_readPost 40 = .ok (.aload_n 0, 1) := by decide +kernel
theorem dX13_readPost_41 : decode cX13_readPost 41 = .ok (.getfield 87, 3) := by decide +kernel
theorem dX13_readPost_44 : decode cX13_readPost 44 = .ok (.iload_n 1, 1) := by decide +kernel
theorem dX13_readPost_45 : decode cX13_readPost 45 = .ok (.iaload, 1) := by decide +kernel
theorem dX13_readPost_46 : decode cX13_readPost 46 = .ok (.aload_n 0, 1) := by decide +kernel
theorem dX13_readPost_47 : decode cX13_readPost 47 = .ok (.getfield 87, 3) := by decide +kernel
theorem dX13_readPost_50 : decode cX13_readPost 50 = .ok (.iload_n 1, 1) := by decide +kernel
theorem dX13_readPost_51 : decode cX13_readPost 51 = .ok (.iconst 1, 1) := by decide +kernel
theorem dX13_readPost_52 : decode cX13_readPost 52 = .ok (.isub, 1) := by decide +kernel
theorem dX13_readPost_53 : decode cX13_readPost 53 = .ok (.iaload, 1) := by decide +kernel
theorem dX13_readPost_54 : decode cX13_readPost 54 = .ok (.if_icmp .gt 8, 3) := by decide +kernel
theorem dX13_readPost_57 : decode cX13_readPost 57 = .ok (.aload_n 0, 1) := by decide +kernel
theorem dX13_readPost_58 : decode cX13_readPost 58 = .ok (.iconst 4, 1) := by decide +kernel
theorem dX13_readPost_59 : decode cX13_readPost 59 = .ok (.invokevirtual 243, 3) := by decide +kernel
theorem dX13_readPost_62 : decode cX13_readPost 62 = .ok (.aload_n 0, 1) := by decide +kernel
theorem dX13_readPost_63 : decode cX13_readPost 63 = .ok (.getfield 222, 3) := by decide +kernel
theorem dX13_readPost_66 : decode cX13_readPost 66 = .ok (.ifCond .ne 7, 3) := by decide +kernel
theorem dX13_readPost_69 : decode cX13_readPost 69 = .ok (.aload_n 0, 1) := by decide +kernel
theorem dX13_readPost_70 : decode cX13_readPost 70 = .ok (.invokevirtual 247, 3) := by decide +kernel
theorem dX13_readPost_73 : decode cX13_readPost 73 = .ok (.aload_n 0, 1) := by decide +kernel
theorem dX13_readPost_74 : decode cX13_readPost 74 = .ok (.getfield 90, 3) := by decide +kernel
theorem dX13_readPost_77 : decode cX13_readPost 77 = .ok (.iload_n 1, 1) := by decide +kernel
theorem dX13_readPost_78 : decode cX13_readPost 78 = .ok (.aload_n 0, 1) := by decide +kernel
theorem dX13_readPost_79 : decode cX13_readPost 79 = .ok (.iconst 0, 1) := by decide +kernel
theorem dX13_readPost_80 : decode cX13_readPost 80 = .ok (.sipush 999, 3) := by decide +kernel
theorem dX13_readPost_83 : decode cX13_readPost 83 = .ok (.invokevirtual 253, 3) := by decide +kernel
theorem dX13_readPost_86 : decode cX13_readPost 86 = .ok (.iastore, 1) := by decide +kernel
theorem dX13_readPost_87 : decode cX13_readPost 87 = .ok (.aload_n 0, 1) := by decide +kernel
theorem dX13_readPost_88 : decode cX13_readPost 88 = .ok (.getfield 40, 3) := by decide +kernel
theorem dX13_readPost_91 : decode cX13_readPost 91 = .ok (.bipush 10, 2) := by decide +kernel
theorem dX13_readPost_93 : decode cX13_readPost 93 = .ok (.dup2, 1) := by decide +kernel
theorem dX13_readPost_94 : decode cX13_readPost 94 = .ok (.iaload, 1) := by decide +kernel
theorem dX13_readPost_95 : decode cX13_readPost 95 = .ok (.iconst 1, 1) := by decide +kernel
theorem dX13_readPost_96 : decode cX13_readPost 96 = .ok (.iadd, 1) := by decide +kernel
theorem dX13_readPost_97 : decode cX13_readPost 97 = .ok (.iastore, 1) := by decide +kernel
theorem dX13_readPost_98 : decode cX13_readPost 98 = .ok (.return_, 1) := by decide +kernel
set_option maxRecDepth 20000 in
theorem ggX13_readLine_X13_is : GoodIn wsX13_readLine wsX13_is := goodIn_r _ [8, 2, 9, 10, 11, 12, 13, 14, 15, 16, 17, 18, 19, 20, 21, 22, 23, 24, 25, 26, 27, 28, 29, 30, 31, 32, 33, 34, 35, 36, 37, 38, 39, 40, 41, 42, 43, 44, 45, 46, 47, 48, 49, 50, 51, 52, 53, 54, 55, 56, 57, 58, 59, 60, 61, 183, 184, 185, 186, 187, 188, 189, 190, 191, 192, 193, 194, 195, 196, 197, 198, 199, 200, 201, 202, 203, 204, 205, 206, 207, 208, 209, 210, 211, 212, 213, 214, 215, 216, 217, 218, 219, 220, 221, 222, 223, 224, 225, 226, 227, 228, 229, 230, 231, 232, 233, 234, 235, 236, 237, 238, 239, 240, 241, 242, 243, 244, 245, 246, 247, 248, 249] rfl (by decide +kernel)
set_option maxRecDepth 20000 in
theorem gX13_readLine_X13_is : GoodIn wsX13_readLine (wsV RX13 236 RX13 yX13_is wsX13_is) := goodIn_app (goodIn_of _ (by decide +kernel)) ggX13_readLine_X13_is
set_option maxRecDepth 20000 in
theorem ggX13_readLine_X13_which : GoodIn wsX13_readLine wsX13_which := goodIn_r _ [65, 4, 5, 6, 7, 8, 2, 9, 10, 11, 12, 13, 14, 15, 16, 17, 18, 19, 20, 21, 22, 23, 24, 25, 26, 27, 28, 29, 30, 31, 32, 33, 34, 35, 36, 37, 38, 39, 40, 41, 42, 43, 44, 45, 46, 47, 48, 49, 50, 51, 52, 53, 54, 55, 56, 57, 58, 59, 60, 61, 183, 184, 185, 186, 187, 188, 189, 190, 191, 192, 193, 194, 195, 196, 197, 198, 199, 200, 201, 202, 203, 204, 205, 206, 207, 208, 209, 210, 211, 212, 213, 214, 215, 216, 217, 218, 219, 220, 221, 222, 223, 224, 225, 226, 227, 228, 229, 230, 231, 232, 233, 234, 235, 236, 237, 238, 239, 240, 241, 242, 243, 244, 245, 246, 247, 248, 249] rfl (by decide +kernel)
set_option maxRecDepth 20000 in
theorem gX13_readLine_X13_which : GoodIn wsX13_readLine (wsV RX13 259 RX13 yX13_which wsX13_which) := goodIn_app (goodIn_of _ (by decide +kernel)) ggX13_readLine_X13_which
set_option maxRecDepth 20000 in
theorem ggX13_readLine_X13_wrong : GoodIn wsX13_readLine wsX13_wrong := goodIn_r _ [69, 2, 11, 70, 183, 184, 185, 186, 187, 188, 189, 190, 191, 192, 193, 194, 195, 196, 197, 198, 199, 200, 201, 202, 203, 204, 205, 206, 207, 208, 209, 210, 211, 212, 213, 214, 215, 216, 217, 218, 219, 220, 221, 222, 223, 224, 225, 226, 227, 228, 229, 230, 231, 232, 233, 234, 235, 236, 237, 238, 239, 240, 241, 242, 243, 244, 245, 246, 247, 248, 249] rfl (by decide +kernel)
set_option maxRecDepth 20000 in
theorem gX13_readLine_X13_wrong : GoodIn wsX13_readLine (wsV RX13 243 RX13 yX13_wrong wsX13_wrong) := goodIn_app (goodIn_of _ (by decide +kernel)) ggX13_readLine_X13_wrong
set_option maxRecDepth 20000 in
theorem ggX13_readLine_X13_stepOn : GoodIn wsX13_readLine wsX13_stepOn := goodIn_r _ [74, 75, 11, 9, 76, 77, 78, 79, 80, 81, 10, 82, 83, 84, 7, 85, 86, 12, 87, 88, 89, 90, 91, 92, 93, 94, 95, 183, 184, 185, 186, 187, 188, 189, 190, 191, 192, 193, 194, 195, 196, 197, 198, 199, 200, 201, 202, 203, 204, 205, 206, 207, 208, 209, 210, 211, 212, 213, 214, 215, 216, 217, 218, 219, 220, 221, 222, 223, 224, 225, 226, 227, 228, 229, 230, 231, 232, 233, 234, 235, 236, 237, 238, 239, 240, 241, 242, 243, 244, 245, 246, 247, 248, 249] rfl (by decide +kernel)
set_option maxRecDepth 20000 in
theorem gX13_readLine_X13_stepOn : GoodIn wsX13_readLine (wsV RX13 247 RX13 yX13_stepOn wsX13_stepOn) := goodIn_app (goodIn_of _ (by decide +kernel)) ggX13_readLine_X13_stepOn
set_option maxRecDepth 20000 in
theorem ggX13_readLine_X13_readNumber : GoodIn wsX13_readLine wsX13_readNumber := goodIn_r _ [99, 2, 100, 101, 102, 7, 103, 9, 10, 11, 76, 66, 67, 68, 69, 70, 71, 72, 73, 74, 75, 77, 78, 79, 80, 81, 82, 83, 84, 85, 86, 12, 87, 88, 89, 90, 91, 92, 93, 94, 95, 183, 184, 185, 186, 187, 188, 189, 190, 191, 192, 193, 194, 195, 196, 197, 198, 199, 200, 201, 202, 203, 204, 205, 206, 207, 208, 209, 210, 211, 212, 213, 214, 215, 216, 217, 218, 219, 220, 221, 222, 223, 224, 225, 226, 227, 228, 229, 230, 231, 232, 233, 234, 235, 236, 237, 238, 239, 240, 241, 242, 243, 244, 245, 246, 247, 248, 249] rfl (by decide +kernel)
set_option maxRecDepth 20000 in
theorem gX13_readLine_X13_readNumber : GoodIn wsX13_readLine (wsV RX13 253 RX13 yX13_readNumber wsX13_readNumber) := goodIn_app (goodIn_of _ (by decide +kernel)) ggX13_readLine_X13_readNumber
set_option maxRecDepth 20000 in
theorem ggX13_readLine_X13_readExpression : GoodIn wsX13_readLine wsX13_readExpression := goodIn_r _ [107, 2, 9, 108, 109, 110, 7, 111, 12, 11, 66, 67, 68, 69, 70, 112, 113, 114, 4, 5, 6, 8, 10, 13, 14, 15, 16, 17, 18, 19, 20, 21, 22, 23, 24, 25, 26, 27, 28, 29, 30, 31, 32, 33, 34, 35, 36, 37, 38, 39, 40, 41, 42, 43, 44, 45, 46, 47, 48, 49, 50, 51, 52, 53, 54, 55, 56, 57, 58, 59, 60, 61, 71, 72, 73, 74, 75, 76, 77, 78, 79, 80, 81, 82, 83, 84, 85, 86, 87, 88, 89, 90, 91, 92, 93, 94, 95, 115, 116, 117, 118, 119, 3, 120, 121, 122, 123, 124, 125, 126, 127, 128, 129, 96, 97, 98, 99, 100, 101, 102, 103, 62, 63, 64, 65, 130, 131, 132, 133, 104, 105, 106, 134, 135, 136, 137, 138, 139, 140, 141, 183, 184, 185, 186, 187, 188, 189, 190, 191, 192, 193, 194, 195, 196, 197, 198, 199, 200, 201, 202, 203, 204, 205, 206, 207, 208, 209, 210, 211, 212, 213, 214, 215, 216, 217, 218, 219, 220, 221, 222, 223, 224, 225, 226, 227, 228, 229, 230, 231, 232, 233, 234, 235, 236, 237, 238, 239, 240, 241, 242, 243, 244, 245, 246, 247, 248, 249] rfl (by decide +kernel)
set_option maxRecDepth 20000 in
theorem gX13_readLine_X13_readExpression : GoodIn wsX13_readLine (wsV RX13 266 RX13 yX13_readExpression wsX13_readExpression) := goodIn_app (goodIn_of _ (by decide +kernel)) ggX13_readLine_X13_readExpression
set_option maxRecDepth 20000 in
theorem ggX13_readLine_X13_readThing : GoodIn wsX13_readLine wsX13_readThing := goodIn_r _ [145, 146, 147, 148, 78, 79, 80, 81, 149, 150, 3, 151, 2, 152, 153, 154, 155, 156, 157, 7, 158, 66, 67, 68, 69, 11, 70, 71, 72, 73, 74, 75, 9, 76, 77, 10, 82, 83, 84, 85, 86, 12, 87, 88, 89, 90, 91, 92, 93, 94, 95, 96, 97, 98, 99, 100, 101, 102, 103, 159, 160, 161, 162, 183, 184, 185, 186, 187, 188, 189, 190, 191, 192, 193, 194, 195, 196, 197, 198, 199, 200, 201, 202, 203, 204, 205, 206, 207, 208, 209, 210, 211, 212, 213, 214, 215, 216, 217, 218, 219, 220, 221, 222, 223, 224, 225, 226, 227, 228, 229, 230, 231, 232, 233, 234, 235, 236, 237, 238, 239, 240, 241, 242, 243, 244, 245, 246, 247, 248, 249] rfl (by decide +kernel)
set_option maxRecDepth 20000 in
theorem gX13_readLine_X13_readThing : GoodIn wsX13_readLine (wsV RX13 300 RX13 yX13_readThing wsX13_readThing) := goodIn_app (goodIn_of _ (by decide +kernel)) ggX13_readLine_X13_readThing
set_option maxRecDepth 20000 in
theorem ggX13_readLine_X13_readPerson : GoodIn wsX13_readLine wsX13_readPerson := goodIn_r _ [166, 167, 168, 169, 3, 155, 156, 157, 7, 158, 2, 66, 67, 68, 69, 11, 70, 71, 72, 73, 74, 75, 9, 76, 77, 78, 79, 80, 81, 10, 82, 83, 84, 85, 86, 12, 87, 88, 89, 90, 91, 92, 93, 94, 95, 96, 97, 98, 99, 100, 101, 102, 103, 183, 184, 185, 186, 187, 188, 189, 190, 191, 192, 193, 194, 195, 196, 197, 198, 199, 200, 201, 202, 203, 204, 205, 206, 207, 208, 209, 210, 211, 212, 213, 214, 215, 216, 217, 218, 219, 220, 221, 222, 223, 224, 225, 226, 227, 228, 229, 230, 231, 232, 233, 234, 235, 236, 237, 238, 239, 240, 241, 242, 243, 244, 245, 246, 247, 248, 249] rfl (by decide +kernel)
set_option maxRecDepth 20000 in
theorem gX13_readLine_X13_readPerson : GoodIn wsX13_readLine (wsV RX13 305 RX13 yX13_readPerson wsX13_readPerson) := goodIn_app (goodIn_of _ (by decide +kernel)) ggX13_readLine_X13_readPerson
set_option maxRecDepth 20000 in
theorem ggX13_readLine_X13_readCase : GoodIn wsX13_readLine wsX13_readCase := goodIn_r _ [173, 174, 3, 2, 175, 153, 176, 152, 155, 156, 157, 7, 158, 66, 67, 68, 69, 11, 70, 71, 72, 73, 74, 75, 9, 76, 77, 78, 79, 80, 81, 10, 82, 83, 84, 85, 86, 12, 87, 88, 89, 90, 91, 92, 93, 94, 95, 159, 160, 161, 162, 100, 101, 102, 103, 96, 97, 98, 99, 4, 5, 6, 8, 13, 14, 15, 16, 17, 18, 19, 20, 21, 22, 23, 24, 25, 26, 27, 28, 29, 30, 31, 32, 33, 34, 35, 36, 37, 38, 39, 40, 41, 42, 43, 44, 45, 46, 47, 48, 49, 50, 51, 52, 53, 54, 55, 56, 57, 58, 59, 60, 61, 183, 184, 185, 186, 187, 188, 189, 190, 191, 192, 193, 194, 195, 196, 197, 198, 199, 200, 201, 202, 203, 204, 205, 206, 207, 208, 209, 210, 211, 212, 213, 214, 215, 216, 217, 218, 219, 220, 221, 222, 223, 224, 225, 226, 227, 228, 229, 230, 231, 232, 233, 234, 235, 236, 237, 238, 239, 240, 241, 242, 243, 244, 245, 246, 247, 248, 249] rfl (by decide +kernel)
set_option maxRecDepth 20000 in
theorem gX13_readLine_X13_readCase : GoodIn wsX13_readLine (wsV RX13 310 RX13 yX13_readCase wsX13_readCase) := goodIn_app (goodIn_of _ (by decide +kernel)) ggX13_readLine_X13_readCase
set_option maxRecDepth 20000 in
theorem ggX13_readLine_X13_readPost : GoodIn wsX13_readLine wsX13_readPost := goodIn_r _ [180, 181, 2, 182, 3, 155, 156, 157, 7, 158, 66, 67, 68, 69, 11, 70, 71, 72, 73, 74, 75, 9, 76, 77, 78, 79, 80, 81, 10, 82, 83, 84, 85, 86, 12, 87, 88, 89, 90, 91, 92, 93, 94, 95, 100, 101, 102, 103, 96, 97, 98, 99, 183, 184, 185, 186, 187, 188, 189, 190, 191, 192, 193, 194, 195, 196, 197, 198, 199, 200, 201, 202, 203, 204, 205, 206, 207, 208, 209, 210, 211, 212, 213, 214, 215, 216, 217, 218, 219, 220, 221, 222, 223, 224, 225, 226, 227, 228, 229, 230, 231, 232, 233, 234, 235, 236, 237, 238, 239, 240, 241, 242, 243, 244, 245, 246, 247, 248, 249] rfl (by decide +kernel)
set_option maxRecDepth 20000 in
theorem gX13_readLine_X13_readPost : GoodIn wsX13_readLine (wsV RX13 315 RX13 yX13_readPost wsX13_readPost) := goodIn_app (goodIn_of _ (by decide +kernel)) ggX13_readLine_X13_readPost
set_option maxRecDepth 20000 in
theorem ggX13_readLine_X13_mark : GoodIn wsX13_readLine wsX13_mark := goodIn_r _ [133, 2, 108, 109, 110, 7, 111, 9, 12, 11, 66, 67, 68, 69, 70, 71, 72, 73, 74, 75, 76, 77, 78, 79, 80, 81, 10, 82, 83, 84, 85, 86, 87, 88, 89, 90, 91, 92, 93, 94, 95, 183, 184, 185, 186, 187, 188, 189, 190, 191, 192, 193, 194, 195, 196, 197, 198, 199, 200, 201, 202, 203, 204, 205, 206, 207, 208, 209, 210, 211, 212, 213, 214, 215, 216, 217, 218, 219, 220, 221, 222, 223, 224, 225, 226, 227, 228, 229, 230, 231, 232, 233, 234, 235, 236, 237, 238, 239, 240, 241, 242, 243, 244, 245, 246, 247, 248, 249] rfl (by decide +kernel)
set_option maxRecDepth 20000 in
theorem gX13_readLine_X13_mark : GoodIn wsX13_readLine (wsV RX13 263 RX13 yX13_mark wsX13_mark) := goodIn_app (goodIn_of _ (by decide +kernel)) ggX13_readLine_X13_mark
theorem dX13_readLine_0 : decode cX13_readLine 0 = .ok (.aload_n 0, 1) := by decide +kernel
theorem dX13_readLine_1 : decode cX13_readLine 1 = .ok (.ldc_w 296, 3) := by decide +kernel
theorem dX13_readLine_4 : decode cX13_readLine 4 = .ok (.invokevirtual 236, 3) := by decide +kernel
theorem dX13_readLine_7 : decode cX13_readLine 7 = .ok (.ifCond .eq 7, 3) := by decide +kernel
theorem dX13_readLine_10 : decode cX13_readLine 10 = .ok (.iconst 1, 1) := by decide +kernel
theorem dX13_readLine_11 : decode cX13_readLine 11 = .ok (.goto 18, 3) := by decide +kernel
theorem dX13_readLine_14 : decode cX13_readLine 14 = .ok (.aload_n 0, 1) := by decide +kernel
theorem dX13_readLine_15 : decode cX13_readLine 15 = .ok (.ldc_w 298, 3) := by decide +kernel
theorem dX13_readLine_18 : decode cX13_readLine 18 = .ok (.invokevirtual 236, 3) := by decide +kernel
theorem dX13_readLine_21 : decode cX13_readLine 21 = .ok (.ifCond .eq 7, 3) := by decide +kernel
theorem dX13_readLine_24 : decode cX13_readLine 24 = .ok (.iconst 2, 1) := by decide +kernel
theorem dX13_readLine_25 : decode cX13_readLine 25 = .ok (.goto 4, 3) := by decide +kernel
theorem dX13_readLine_28 : decode cX13_readLine 28 = .ok (.iconst 0, 1) := by decide +kernel
theorem dX13_readLine_29 : decode cX13_readLine 29 = .ok (.istore_n 2, 1) := by decide +kernel
theorem dX13_readLine_30 : decode cX13_readLine 30 = .ok (.aload_n 0, 1) := by decide +kernel
theorem dX13_readLine_31 : decode cX13_readLine 31 = .ok (.aload_n 0, 1) := by decide +kernel
theorem dX13_readLine_32 : decode cX13_readLine 32 = .ok (.getfield 21, 3) := by decide +kernel
theorem dX13_readLine_35 : decode cX13_readLine 35 = .ok (.invokevirtual 259, 3) := by decide +kernel
theorem dX13_readLine_38 : decode cX13_readLine 38 = .ok (.istore_n 3, 1) := by decide +kernel
theorem dX13_readLine_39 : decode cX13_readLine 39 = .ok (.iload_n 2, 1) := by decide +kernel
theorem dX13_readLine_40 : decode cX13_readLine 40 = .ok (.iload_n 1, 1) := by decide +kernel
theorem dX13_readLine_41 : decode cX13_readLine 41 = .ok (.iand, 1) := by decide +kernel
theorem dX13_readLine_42 : decode cX13_readLine 42 = .ok (.ifCond .eq 8, 3) := by decide +kernel
theorem dX13_readLine_45 : decode cX13_readLine 45 = .ok (.aload_n 0, 1) := by decide +kernel
theorem dX13_readLine_46 : decode cX13_readLine 46 = .ok (.iconst 5, 1) := by decide +kernel
theorem dX13_readLine_47 : decode cX13_readLine 47 = .ok (.invokevirtual 243, 3) := by decide +kernel
theorem dX13_readLine_50 : decode cX13_readLine 50 = .ok (.iload_n 2, 1) := by decide +kernel
theorem dX13_readLine_51 : decode cX13_readLine 51 = .ok (.ifCond .le 59, 3) := by decide +kernel
theorem dX13_readLine_54 : decode cX13_readLine 54 = .ok (.aload_n 0, 1) := by decide +kernel
theorem dX13_readLine_55 : decode cX13_readLine 55 = .ok (.getfield 222, 3) := by decide +kernel
theorem dX13_readLine_58 : decode cX13_readLine 58 = .ok (.ifCond .ne 7, 3) := by decide +kernel
theorem dX13_readLine_61 : decode cX13_readLine 61 = .ok (.aload_n 0, 1) := by decide +kernel
theorem dX13_readLine_62 : decode cX13_readLine 62 = .ok (.invokevirtual 247, 3) := by decide +kernel
theorem dX13_readLine_65 : decode cX13_readLine 65 = .ok (.iload_n 2, 1) := by decide +kernel
theorem dX13_readLine_66 : decode cX13_readLine 66 = .ok (.iconst 1, 1) := by decide +kernel
theorem dX13_readLine_67 : decode cX13_readLine 67 = .ok (.if_icmp .ne 35, 3) := by decide +kernel
theorem dX13_readLine_70 : decode cX13_readLine 70 = .ok (.aload_n 0, 1) := by decide +kernel
theorem dX13_readLine_71 : decode cX13_readLine 71 = .ok (.getfield 40, 3) := by decide +kernel
theorem dX13_readLine_74 : decode cX13_readLine 74 = .ok (.bipush 11, 2) := by decide +kernel
theorem dX13_readLine_76 : decode cX13_readLine 76 = .ok (.aload_n 0, 1) := by decide +kernel
theorem dX13_readLine_77 : decode cX13_readLine 77 = .ok (.iconst 0, 1) := by decide +kernel
theorem dX13_readLine_78 : decode cX13_readLine 78 = .ok (.bipush 10, 2) := by decide +kernel
theorem dX13_readLine_80 : decode cX13_readLine 80 = .ok (.invokevirtual 253, 3) := by decide +kernel
theorem dX13_readLine_83 : decode cX13_readLine 83 = .ok (.iastore, 1) := by decide +kernel
theorem dX13_readLine_84 : decode cX13_readLine 84 = .ok (.aload_n 0, 1) := by decide +kernel
theorem dX13_readLine_85 : decode cX13_readLine 85 = .ok (.getfield 40, 3) := by decide +kernel
theorem dX13_readLine_88 : decode cX13_readLine 88 = .ok (.bipush 12, 2) := by decide +kernel
theorem dX13_readLine_90 : decode cX13_readLine 90 = .ok (.aload_n 0, 1) := by decide +kernel
theorem dX13_readLine_91 : decode cX13_readLine 91 = .ok (.iconst 0, 1) := by decide +kernel
theorem dX13_readLine_92 : decode cX13_readLine 92 = .ok (.sipush 999, 3) := by decide +kernel
theorem dX13_readLine_95 : decode cX13_readLine 95 = .ok (.invokevirtual 253, 3) := by decide +kernel
theorem dX13_readLine_98 : decode cX13_readLine 98 = .ok (.iastore, 1) := by decide +kernel
theorem dX13_readLine_99 : decode cX13_readLine 99 = .ok (.goto 84, 3) := by decide +kernel
theorem dX13_readLine_102 : decode cX13_readLine 102 = .ok (.aload_n 0, 1) := by decide +kernel
theorem dX13_readLine_103 : decode cX13_readLine 103 = .ok (.iconst 0, 1) := by decide +kernel
theorem dX13_readLine_104 : decode cX13_readLine 104 = .ok (.invokevirtual 266, 3) := by decide +kernel
theorem dX13_readLine_107 : decode cX13_readLine 107 = .ok (.goto 76, 3) := by decide +kernel
theorem dX13_readLine_110 : decode cX13_readLine 110 = .ok (.iload_n 3, 1) := by decide +kernel
theorem dX13_readLine_111 : decode cX13_readLine 111 = .ok (.iconst (-1), 1) := by decide +kernel
theorem dX13_readLine_112 : decode cX13_readLine 112 = .ok (.if_icmp .eq 11, 3) := by decide +kernel
theorem dX13_readLine_115 : decode cX13_readLine 115 = .ok (.aload_n 0, 1) := by decide +kernel
theorem dX13_readLine_116 : decode cX13_readLine 116 = .ok (.iload_n 3, 1) := by decide +kernel
theorem dX13_readLine_117 : decode cX13_readLine 117 = .ok (.invokevirtual 300, 3) := by decide +kernel
theorem dX13_readLine_120 : decode cX13_readLine 120 = .ok (.goto 63, 3) := by decide +kernel
theorem dX13_readLine_123 : decode cX13_readLine 123 = .ok (.aload_n 0, 1) := by decide +kernel
theorem dX13_readLine_124 : decode cX13_readLine 124 = .ok (.ldc_w 303, 3) := by decide +kernel
theorem dX13_readLine_127 : decode cX13_readLine 127 = .ok (.invokevirtual 236, 3) := by decide +kernel
theorem dX13_readLine_130 : decode cX13_readLine 130 = .ok (.ifCond .eq 10, 3) := by decide +kernel
theorem dX13_readLine_133 : decode cX13_readLine 133 = .ok (.aload_n 0, 1) := by decide +kernel
theorem dX13_readLine_134 : decode cX13_readLine 134 = .ok (.invokevirtual 305, 3) := by decide +kernel
theorem dX13_readLine_137 : decode cX13_readLine 137 = .ok (.goto 46, 3) := by decide +kernel
theorem dX13_readLine_140 : decode cX13_readLine 140 = .ok (.aload_n 0, 1) := by decide +kernel
theorem dX13_readLine_141 : decode cX13_readLine 141 = .ok (.ldc_w 308, 3) := by decide +kernel
theorem dX13_readLine_144 : decode cX13_readLine 144 = .ok (.invokevirtual 236, 3) := by decide +kernel
theorem dX13_readLine_147 : decode cX13_readLine 147 = .ok (.ifCond .eq 10, 3) := by decide +kernel
theorem dX13_readLine_150 : decode cX13_readLine 150 = .ok (.aload_n 0, 1) := by decide +kernel
theorem dX13_readLine_151 : decode cX13_readLine 151 = .ok (.invokevirtual 310, 3) := by decide +kernel
theorem dX13_readLine_154 : decode cX13_readLine 154 = .ok (.goto 29, 3) := by decide +kernel
theorem dX13_readLine_157 : decode cX13_readLine 157 = .ok (.aload_n 0, 1) := by decide +kernel
theorem dX13_readLine_158 : decode cX13_readLine 158 = .ok (.ldc_w 313, 3) := by decide +kernel
theorem dX13_readLine_161 : decode cX13_readLine 161 = .ok (.invokevirtual 236, 3) := by decide +kernel
theorem dX13_readLine_164 : decode cX13_readLine 164 = .ok (.ifCond .ne 8, 3) := by decide +kernel
theorem dX13_readLine_167 : decode cX13_readLine 167 = .ok (.aload_n 0, 1) := by decide +kernel
theorem dX13_readLine_168 : decode cX13_readLine 168 = .ok (.iconst 1, 1) := by decide +kernel
theorem dX13_readLine_169 : decode cX13_readLine 169 = .ok (.invokevirtual 243, 3) := by decide +kernel
theorem dX13_readLine_172 : decode cX13_readLine 172 = .ok (.aload_n 0, 1) := by decide +kernel
theorem dX13_readLine_173 : decode cX13_readLine 173 = .ok (.getfield 222, 3) := by decide +kernel
theorem dX13_readLine_176 : decode cX13_readLine 176 = .ok (.ifCond .ne 7, 3) := by decide +kernel
theorem dX13_readLine_179 : decode cX13_readLine 179 = .ok (.aload_n 0, 1) := by decide +kernel
theorem dX13_readLine_180 : decode cX13_readLine 180 = .ok (.invokevirtual 315, 3) := by decide +kernel
theorem dX13_readLine_183 : decode cX13_readLine 183 = .ok (.aload_n 0, 1) := by decide +kernel
theorem dX13_readLine_184 : decode cX13_readLine 184 = .ok (.bipush 59, 2) := by decide +kernel
theorem dX13_readLine_186 : decode cX13_readLine 186 = .ok (.invokevirtual 263, 3) := by decide +kernel
theorem dX13_readLine_189 : decode cX13_readLine 189 = .ok (.iload_n 1, 1) := by decide +kernel
theorem dX13_readLine_190 : decode cX13_readLine 190 = .ok (.iload_n 2, 1) := by decide +kernel
theorem dX13_readLine_191 : decode cX13_readLine 191 = .ok (.ior, 1) := by decide +kernel
theorem dX13_readLine_192 : decode cX13_readLine 192 = .ok (.ireturn, 1) := by decide +kernel
set_option maxRecDepth 20000 in
theorem ggX13_hall_X13_fail : GoodIn wsX13_hall wsX13_fail := goodIn_r _ [15, 1, 208, 209, 210, 211, 212, 213, 214, 215, 216, 217, 218, 219, 220, 221, 222, 223, 224, 225, 226, 227, 228, 229, 230, 231, 232, 233, 234, 235, 236, 237, 238, 239, 240, 241, 242, 243, 244, 245, 246, 247, 248, 249, 250, 251, 252, 253, 254, 255, 256, 257, 258, 259, 260, 261, 262, 263, 264, 265, 266, 267, 268, 269, 270, 271, 272, 273, 274] rfl (by decide +kernel)
set_option maxRecDepth 20000 in
theorem gX13_hall_X13_fail : GoodIn wsX13_hall (wsV RX13 318 RX13 yX13_fail wsX13_fail) := goodIn_app (goodIn_of _ (by decide +kernel)) ggX13_hall_X13_fail
set_option maxRecDepth 20000 in
theorem ggX13_hall_X13_stepOn : GoodIn wsX13_hall wsX13_stepOn := goodIn_r _ [19, 4, 20, 8, 21, 22, 23, 24, 25, 26, 27, 28, 29, 30, 14, 31, 3, 32, 33, 34, 35, 36, 37, 38, 39, 40, 41, 208, 209, 210, 211, 212, 213, 214, 215, 216, 217, 218, 219, 220, 221, 222, 223, 224, 225, 226, 227, 228, 229, 230, 231, 232, 233, 234, 235, 236, 237, 238, 239, 240, 241, 242, 243, 244, 245, 246, 247, 248, 249, 250, 251, 252, 253, 254, 255, 256, 257, 258, 259, 260, 261, 262, 263, 264, 265, 266, 267, 268, 269, 270, 271, 272, 273, 274] rfl (by decide +kernel)
set_option maxRecDepth 20000 in
theorem gX13_hall_X13_stepOn : GoodIn wsX13_hall (wsV RX13 247 RX13 yX13_stepOn wsX13_stepOn) := goodIn_app (goodIn_of _ (by decide +kernel)) ggX13_hall_X13_stepOn
set_option maxRecDepth 20000 in
theorem ggX13_hall_X13_readLine : GoodIn wsX13_hall wsX13_readLine := goodIn_r _ [45, 46, 5, 7, 47, 48, 49, 14, 50, 8, 27, 20, 32, 51, 52, 53, 54, 55, 56, 57, 58, 59, 60, 61, 62, 63, 64, 65, 66, 67, 68, 69, 70, 71, 72, 73, 74, 75, 76, 77, 78, 79, 80, 81, 82, 83, 84, 85, 86, 87, 88, 89, 90, 91, 92, 93, 94, 95, 96, 97, 98, 99, 100, 101, 102, 103, 104, 105, 106, 107, 9, 16, 17, 18, 19, 4, 21, 22, 23, 24, 25, 26, 28, 29, 30, 31, 3, 33, 34, 35, 36, 37, 38, 39, 40, 41, 108, 109, 110, 111, 112, 113, 114, 115, 116, 117, 118, 119, 120, 121, 122, 123, 124, 125, 126, 127, 128, 129, 130, 131, 132, 133, 134, 135, 136, 137, 138, 139, 140, 141, 142, 143, 144, 145, 146, 147, 148, 149, 150, 151, 152, 153, 154, 155, 156, 157, 158, 159, 160, 161, 162, 163, 164, 165, 166, 167, 168, 169, 170, 171, 172, 173, 174, 175, 176, 177, 178, 179, 180, 181, 182, 183, 184, 185, 186, 187, 188, 189, 190, 191, 192, 193, 194, 208, 209, 210, 211, 212, 213, 214, 215, 216, 217, 218, 219, 220, 221, 222, 223, 224, 225, 226, 227, 228, 229, 230, 231, 232, 233, 234, 235, 236, 237, 238, 239, 240, 241, 242, 243, 244, 245, 246, 247, 248, 249, 250, 251, 252, 253, 254, 255, 256, 257, 258, 259, 260, 261, 262, 263, 264, 265, 266, 267, 268, 269, 270, 271, 272, 273, 274] rfl (by decide +kernel)
set_option maxRecDepth 20000 in
theorem gX13_hall_X13_readLine : GoodIn wsX13_hall (wsV RX13 321 RX13 yX13_readLine wsX13_readLine) := goodIn_app (goodIn_of _ (by decide +kernel)) ggX13_hall_X13_readLine
set_option maxRecDepth 20000 in
theorem ggX13_hall_X13_takeOver : GoodIn wsX13_hall wsX13_takeOver := goodIn_r _ [198, 7, 179, 180, 181, 186, 187, 165, 188, 164, 158, 159, 160, 161, 162, 166, 163, 193, 194, 131, 199, 200, 201, 202, 203, 204, 205, 206, 14, 207, 208, 209, 210, 211, 212, 213, 214, 215, 216, 217, 218, 219, 220, 221, 222, 223, 224, 225, 226, 227, 228, 229, 230, 231, 232, 233, 234, 235, 236, 237, 238, 239, 240, 241, 242, 243, 244, 245, 246, 247, 248, 249, 250, 251, 252, 253, 254, 255, 256, 257, 258, 259, 260, 261, 262, 263, 264, 265, 266, 267, 268, 269, 270, 271, 272, 273, 274] rfl (by decide +kernel)
set_option maxRecDepth 20000 in
theorem gX13_hall_X13_takeOver : GoodIn wsX13_hall (wsV RX13 324 RX13 yX13_takeOver wsX13_takeOver) := goodIn_app (goodIn_of _ (by decide +kernel)) ggX13_hall_X13_takeOver
theorem dX13_hall_0 : decode cX13_hall 0 = .ok (.aload_n 0, 1) := by decide +kernel
theorem dX13_hall_1 : decode cX13_hall 1 = .ok (.iconst 0, 1) := by decide +kernel
theorem dX13_hall_2 : decode cX13_hall 2 = .ok (.putfield 173, 3) := by decide +kernel
theorem dX13_hall_5 : decode cX13_hall 5 = .ok (.iload_n 1, 1) := by decide +kernel
theorem dX13_hall_6 : decode cX13_hall 6 = .ok (.ifCond .lt 11, 3) := by decide +kernel
theorem dX13_hall_9 : decode cX13_hall 9 = .ok (.iload_n 1, 1) := by decide +kernel
theorem dX13_hall_10 : decode cX13_hall 10 = .ok (.aload_n 0, 1) := by decide +kernel
theorem dX13_hall_11 : decode cX13_hall 11 = .ok (.getfield 180, 3) := by decide +kernel
theorem dX13_hall_14 : decode cX13_hall 14 = .ok (.if_icmp .le 9, 3) := by decide +kernel
theorem dX13_hall_17 : decode cX13_hall 17 = .ok (.aload_n 0, 1) := by decide +kernel
theorem dX13_hall_18 : decode cX13_hall 18 = .ok (.iconst 1, 1) := by decide +kernel
theorem dX13_hall_19 : decode cX13_hall 19 = .ok (.invokevirtual 318, 3) := by decide +kernel
theorem dX13_hall_22 : decode cX13_hall 22 = .ok (.ireturn, 1) := by decide +kernel
theorem dX13_hall_23 : decode cX13_hall 23 = .ok (.aload_n 0, 1) := by decide +kernel
theorem dX13_hall_24 : decode cX13_hall 24 = .ok (.iconst 0, 1) := by decide +kernel
theorem dX13_hall_25 : decode cX13_hall 25 = .ok (.putfield 180, 3) := by decide +kernel
theorem dX13_hall_28 : decode cX13_hall 28 = .ok (.aload_n 0, 1) := by decide +kernel
theorem dX13_hall_29 : decode cX13_hall 29 = .ok (.iload_n 1, 1) := by decide +kernel
theorem dX13_hall_30 : decode cX13_hall 30 = .ok (.putfield 183, 3) := by decide +kernel
theorem dX13_hall_33 : decode cX13_hall 33 = .ok (.aload_n 0, 1) := by decide +kernel
theorem dX13_hall_34 : decode cX13_hall 34 = .ok (.iconst 0, 1) := by decide +kernel
theorem dX13_hall_35 : decode cX13_hall 35 = .ok (.putfield 186, 3) := by decide +kernel
theorem dX13_hall_38 : decode cX13_hall 38 = .ok (.aload_n 0, 1) := by decide +kernel
theorem dX13_hall_39 : decode cX13_hall 39 = .ok (.iconst 0, 1) := by decide +kernel
theorem dX13_hall_40 : decode cX13_hall 40 = .ok (.putfield 222, 3) := by decide +kernel
theorem dX13_hall_43 : decode cX13_hall 43 = .ok (.aload_n 0, 1) := by decide +kernel
theorem dX13_hall_44 : decode cX13_hall 44 = .ok (.iconst (-1), 1) := by decide +kernel
theorem dX13_hall_45 : decode cX13_hall 45 = .ok (.putfield 102, 3) := by decide +kernel
theorem dX13_hall_48 : decode cX13_hall 48 = .ok (.iconst 0, 1) := by decide +kernel
theorem dX13_hall_49 : decode cX13_hall 49 = .ok (.istore_n 2, 1) := by decide +kernel
theorem dX13_hall_50 : decode cX13_hall 50 = .ok (.iload_n 2, 1) := by decide +kernel
theorem dX13_hall_51 : decode cX13_hall 51 = .ok (.bipush 7, 2) := by decide +kernel
theorem dX13_hall_53 : decode cX13_hall 53 = .ok (.if_icmp .ge 19, 3) := by decide +kernel
theorem dX13_hall_56 : decode cX13_hall 56 = .ok (.aload_n 0, 1) := by decide +kernel
theorem dX13_hall_57 : decode cX13_hall 57 = .ok (.getfield 40, 3) := by decide +kernel
theorem dX13_hall_60 : decode cX13_hall 60 = .ok (.bipush 7, 2) := by decide +kernel
theorem dX13_hall_62 : decode cX13_hall 62 = .ok (.iload_n 2, 1) := by decide +kernel
theorem dX13_hall_63 : decode cX13_hall 63 = .ok (.iadd, 1) := by decide +kernel
theorem dX13_hall_64 : decode cX13_hall 64 = .ok (.iconst 0, 1) := by decide +kernel
theorem dX13_hall_65 : decode cX13_hall 65 = .ok (.iastore, 1) := by decide +kernel
theorem dX13_hall_66 : decode cX13_hall 66 = .ok (.iinc 2 1, 3) := by decide +kernel
theorem dX13_hall_69 : decode cX13_hall 69 = .ok (.goto (-19), 3) := by decide +kernel
theorem dX13_hall_72 : decode cX13_hall 72 = .ok (.aload_n 0, 1) := by decide +kernel
theorem dX13_hall_73 : decode cX13_hall 73 = .ok (.invokevirtual 247, 3) := by decide +kernel
theorem dX13_hall_76 : decode cX13_hall 76 = .ok (.iconst 0, 1) := by decide +kernel
theorem dX13_hall_77 : decode cX13_hall 77 = .ok (.istore_n 2, 1) := by decide +kernel
theorem dX13_hall_78 : decode cX13_hall 78 = .ok (.aload_n 0, 1) := by decide +kernel
theorem dX13_hall_79 : decode cX13_hall 79 = .ok (.getfield 222, 3) := by decide +kernel
theorem dX13_hall_82 : decode cX13_hall 82 = .ok (.ifCond .ne 19, 3) := by decide +kernel
theorem dX13_hall_85 : decode cX13_hall 85 = .ok (.aload_n 0, 1) := by decide +kernel
theorem dX13_hall_86 : decode cX13_hall 86 = .ok (.getfield 196, 3) := by decide +kernel
theorem dX13_hall_89 : decode cX13_hall 89 = .ok (.ifCond .eq 12, 3) := by decide +kernel
theorem dX13_hall_92 : decode cX13_hall 92 = .ok (.aload_n 0, 1) := by decide +kernel
theorem dX13_hall_93 : decode cX13_hall 93 = .ok (.iload_n 2, 1) := by decide +kernel
theorem dX13_hall_94 : decode cX13_hall 94 = .ok (.invokevirtual 321, 3) := by decide +kernel
theorem dX13_hall_97 : decode cX13_hall 97 = .ok (.istore_n 2, 1) := by decide +kernel
theorem dX13_hall_98 : decode cX13_hall 98 = .ok (.goto (-20), 3) := by decide +kernel
theorem dX13_hall_101 : decode cX13_hall 101 = .ok (.aload_n 0, 1) := by decide +kernel
theorem dX13_hall_102 : decode cX13_hall 102 = .ok (.getfield 222, 3) := by decide +kernel
theorem dX13_hall_105 : decode cX13_hall 105 = .ok (.ifCond .eq 26, 3) := by decide +kernel
theorem dX13_hall_108 : decode cX13_hall 108 = .ok (.aload_n 0, 1) := by decide +kernel
theorem dX13_hall_109 : decode cX13_hall 109 = .ok (.aload_n 0, 1) := by decide +kernel
theorem dX13_hall_110 : decode cX13_hall 110 = .ok (.getfield 225, 3) := by decide +kernel
theorem dX13_hall_113 : decode cX13_hall 113 = .ok (.putfield 102, 3) := by decide +kernel
theorem dX13_hall_116 : decode cX13_hall 116 = .ok (.aload_n 0, 1) := by decide +kernel
theorem dX13_hall_117 : decode cX13_hall 117 = .ok (.getfield 96, 3) := by decide +kernel
theorem dX13_hall_120 : decode cX13_hall 120 = .ok (.iconst 0, 1) := by decide +kernel
theorem dX13_hall_121 : decode cX13_hall 121 = .ok (.dup2, 1) := by decide +kernel
theorem dX13_hall_122 : decode cX13_hall 122 = .ok (.iaload, 1) := by decide +kernel
theorem dX13_hall_123 : decode cX13_hall 123 = .ok (.iconst 1, 1) := by decide +kernel
theorem dX13_hall_124 : decode cX13_hall 124 = .ok (.iadd, 1) := by decide +kernel
theorem dX13_hall_125 : decode cX13_hall 125 = .ok (.iastore, 1) := by decide +kernel
theorem dX13_hall_126 : decode cX13_hall 126 = .ok (.aload_n 0, 1) := by decide +kernel
theorem dX13_hall_127 : decode cX13_hall 127 = .ok (.getfield 222, 3) := by decide +kernel
theorem dX13_hall_130 : decode cX13_hall 130 = .ok (.ireturn, 1) := by decide +kernel
theorem dX13_hall_131 : decode cX13_hall 131 = .ok (.aload_n 0, 1) := by decide +kernel
theorem dX13_hall_132 : decode cX13_hall 132 = .ok (.invokevirtual 324, 3) := by decide +kernel
theorem dX13_hall_135 : decode cX13_hall 135 = .ok (.iconst 0, 1) := by decide +kernel
theorem dX13_hall_136 : decode cX13_hall 136 = .ok (.ireturn, 1) := by decide +kernel
theorem dX13_takeHalf_0 : decode cX13_takeHalf 0 = .ok (.iconst 0, 1) := by decide +kernel
theorem dX13_takeHalf_1 : decode cX13_takeHalf 1 = .ok (.istore_n 1, 1) := by decide +kernel
theorem dX13_takeHalf_2 : decode cX13_takeHalf 2 = .ok (.iload_n 1, 1) := by decide +kernel
theorem dX13_takeHalf_3 : decode cX13_takeHalf 3 = .ok (.aload_n 0, 1) := by decide +kernel
theorem dX13_takeHalf_4 : decode cX13_takeHalf 4 = .ok (.arraylength, 1) := by decide +kernel
theorem dX13_takeHalf_5 : decode cX13_takeHalf 5 = .ok (.iconst 2, 1) := by decide +kernel
theorem dX13_takeHalf_6 : decode cX13_takeHalf 6 = .ok (.idiv, 1) := by decide +kernel
theorem dX13_takeHalf_7 : decode cX13_takeHalf 7 = .ok (.if_icmp .ge 20, 3) := by decide +kernel
theorem dX13_takeHalf_10 : decode cX13_takeHalf 10 = .ok (.aload_n 0, 1) := by decide +kernel
theorem dX13_takeHalf_11 : decode cX13_takeHalf 11 = .ok (.iload_n 1, 1) := by decide +kernel
theorem dX13_takeHalf_12 : decode cX13_takeHalf 12 = .ok (.aload_n 0, 1) := by decide +kernel
theorem dX13_takeHalf_13 : decode cX13_takeHalf 13 = .ok (.aload_n 0, 1) := by decide +kernel
theorem dX13_takeHalf_14 : decode cX13_takeHalf 14 = .ok (.arraylength, 1) := by decide +kernel
theorem dX13_takeHalf_15 : decode cX13_takeHalf 15 = .ok (.iconst 2, 1) := by decide +kernel
theorem dX13_takeHalf_16 : decode cX13_takeHalf 16 = .ok (.idiv, 1) := by decide +kernel
theorem dX13_takeHalf_17 : decode cX13_takeHalf 17 = .ok (.iload_n 1, 1) := by decide +kernel
theorem dX13_takeHalf_18 : decode cX13_takeHalf 18 = .ok (.iadd, 1) := by decide +kernel
theorem dX13_takeHalf_19 : decode cX13_takeHalf 19 = .ok (.iaload, 1) := by decide +kernel
theorem dX13_takeHalf_20 : decode cX13_takeHalf 20 = .ok (.iastore, 1) := by decide +kernel
theorem dX13_takeHalf_21 : decode cX13_takeHalf 21 = .ok (.iinc 1 1, 3) := by decide +kernel
theorem dX13_takeHalf_24 : decode cX13_takeHalf 24 = .ok (.goto (-22), 3) := by decide +kernel
theorem dX13_takeHalf_27 : decode cX13_takeHalf 27 = .ok (.return_, 1) := by decide +kernel
set_option maxRecDepth 20000 in
theorem ggX13_takeOver_X13_takeHalf : GoodIn wsX13_takeOver wsX13_takeHalf := goodIn_r _ [29] rfl (by decide +kernel)
set_option maxRecDepth 20000 in
theorem gX13_takeOver_X13_takeHalf : GoodIn wsX13_takeOver (va_wsS RX13 327 yX13_takeHalf wsX13_takeHalf) := goodIn_app (goodIn_of _ (by decide +kernel)) ggX13_takeOver_X13_takeHalf
theorem dX13_takeOver_0 : decode cX13_takeOver 0 = .ok (.aload_n 0, 1) := by decide +kernel
theorem dX13_takeOver_1 : decode cX13_takeOver 1 = .ok (.getfield 40, 3) := by decide +kernel
theorem dX13_takeOver_4 : decode cX13_takeOver 4 = .ok (.invokestatic 327, 3) := by decide +kernel
theorem dX13_takeOver_7 : decode cX13_takeOver 7 = .ok (.aload_n 0, 1) := by decide +kernel
theorem dX13_takeOver_8 : decode cX13_takeOver 8 = .ok (.getfield 44, 3) := by decide +kernel
theorem dX13_takeOver_11 : decode cX13_takeOver 11 = .ok (.invokestatic 327, 3) := by decide +kernel
theorem dX13_takeOver_14 : decode cX13_takeOver 14 = .ok (.aload_n 0, 1) := by decide +kernel
theorem dX13_takeOver_15 : decode cX13_takeOver 15 = .ok (.getfield 47, 3) := by decide +kernel
theorem dX13_takeOver_18 : decode cX13_takeOver 18 = .ok (.invokestatic 327, 3) := by decide +kernel
theorem dX13_takeOver_21 : decode cX13_takeOver 21 = .ok (.aload_n 0, 1) := by decide +kernel
theorem dX13_takeOver_22 : decode cX13_takeOver 22 = .ok (.getfield 50, 3) := by decide +kernel
theorem dX13_takeOver_25 : decode cX13_takeOver 25 = .ok (.invokestatic 327, 3) := by decide +kernel
theorem dX13_takeOver_28 : decode cX13_takeOver 28 = .ok (.aload_n 0, 1) := by decide +kernel
theorem dX13_takeOver_29 : decode cX13_takeOver 29 = .ok (.getfield 53, 3) := by decide +kernel
theorem dX13_takeOver_32 : decode cX13_takeOver 32 = .ok (.invokestatic 327, 3) := by decide +kernel
theorem dX13_takeOver_35 : decode cX13_takeOver 35 = .ok (.aload_n 0, 1) := by decide +kernel
theorem dX13_takeOver_36 : decode cX13_takeOver 36 = .ok (.getfield 56, 3) := by decide +kernel
theorem dX13_takeOver_39 : decode cX13_takeOver 39 = .ok (.invokestatic 327, 3) := by decide +kernel
theorem dX13_takeOver_42 : decode cX13_takeOver 42 = .ok (.aload_n 0, 1) := by decide +kernel
theorem dX13_takeOver_43 : decode cX13_takeOver 43 = .ok (.getfield 58, 3) := by decide +kernel
theorem dX13_takeOver_46 : decode cX13_takeOver 46 = .ok (.invokestatic 327, 3) := by decide +kernel
theorem dX13_takeOver_49 : decode cX13_takeOver 49 = .ok (.aload_n 0, 1) := by decide +kernel
theorem dX13_takeOver_50 : decode cX13_takeOver 50 = .ok (.getfield 61, 3) := by decide +kernel
theorem dX13_takeOver_53 : decode cX13_takeOver 53 = .ok (.invokestatic 327, 3) := by decide +kernel
theorem dX13_takeOver_56 : decode cX13_takeOver 56 = .ok (.aload_n 0, 1) := by decide +kernel
theorem dX13_takeOver_57 : decode cX13_takeOver 57 = .ok (.getfield 64, 3) := by decide +kernel
theorem dX13_takeOver_60 : decode cX13_takeOver 60 = .ok (.invokestatic 327, 3) := by decide +kernel
theorem dX13_takeOver_63 : decode cX13_takeOver 63 = .ok (.aload_n 0, 1) := by decide +kernel
theorem dX13_takeOver_64 : decode cX13_takeOver 64 = .ok (.getfield 66, 3) := by decide +kernel
theorem dX13_takeOver_67 : decode cX13_takeOver 67 = .ok (.invokestatic 327, 3) := by decide +kernel
theorem dX13_takeOver_70 : decode cX13_takeOver 70 = .ok (.aload_n 0, 1) := by decide +kernel
theorem dX13_takeOver_71 : decode cX13_takeOver 71 = .ok (.getfield 69, 3) := by decide +kernel
theorem dX13_takeOver_74 : decode cX13_takeOver 74 = .ok (.invokestatic 327, 3) := by decide +kernel
theorem dX13_takeOver_77 : decode cX13_takeOver 77 = .ok (.aload_n 0, 1) := by decide +kernel
theorem dX13_takeOver_78 : decode cX13_takeOver 78 = .ok (.getfield 72, 3) := by decide +kernel
theorem dX13_takeOver_81 : decode cX13_takeOver 81 = .ok (.invokestatic 327, 3) := by decide +kernel
theorem dX13_takeOver_84 : decode cX13_takeOver 84 = .ok (.aload_n 0, 1) := by decide +kernel
theorem dX13_takeOver_85 : decode cX13_takeOver 85 = .ok (.getfield 75, 3) := by decide +kernel
theorem dX13_takeOver_88 : decode cX13_takeOver 88 = .ok (.invokestatic 327, 3) := by decide +kernel
theorem dX13_takeOver_91 : decode cX13_takeOver 91 = .ok (.aload_n 0, 1) := by decide +kernel
theorem dX13_takeOver_92 : decode cX13_takeOver 92 = .ok (.getfield 78, 3) := by decide +kernel
theorem dX13_takeOver_95 : decode cX13_takeOver 95 = .ok (.invokestatic 327, 3) := by decide +kernel
theorem dX13_takeOver_98 : decode cX13_takeOver 98 = .ok (.aload_n 0, 1) := by decide +kernel
theorem dX13_takeOver_99 : decode cX13_takeOver 99 = .ok (.getfield 81, 3) := by decide +kernel
theorem dX13_takeOver_102 : decode cX13_takeOver 102 = .ok (.invokestatic 327, 3) := by decide +kernel
theorem dX13_takeOver_105 : decode cX13_takeOver 105 = .ok (.aload_n 0, 1) := by decide +kernel
theorem dX13_takeOver_106 : decode cX13_takeOver 106 = .ok (.getfield 84, 3) := by decide +kernel
theorem dX13_takeOver_109 : decode cX13_takeOver 109 = .ok (.invokestatic 327, 3) := by decide +kernel
theorem dX13_takeOver_112 : decode cX13_takeOver 112 = .ok (.aload_n 0, 1) := by decide +kernel
theorem dX13_takeOver_113 : decode cX13_takeOver 113 = .ok (.getfield 87, 3) := by decide +kernel
theorem dX13_takeOver_116 : decode cX13_takeOver 116 = .ok (.invokestatic 327, 3) := by decide +kernel
theorem dX13_takeOver_119 : decode cX13_takeOver 119 = .ok (.aload_n 0, 1) := by decide +kernel
theorem dX13_takeOver_120 : decode cX13_takeOver 120 = .ok (.getfield 90, 3) := by decide +kernel
theorem dX13_takeOver_123 : decode cX13_takeOver 123 = .ok (.invokestatic 327, 3) := by decide +kernel
theorem dX13_takeOver_126 : decode cX13_takeOver 126 = .ok (.aload_n 0, 1) := by decide +kernel
theorem dX13_takeOver_127 : decode cX13_takeOver 127 = .ok (.getfield 93, 3) := by decide +kernel
theorem dX13_takeOver_130 : decode cX13_takeOver 130 = .ok (.invokestatic 327, 3) := by decide +kernel
theorem dX13_takeOver_133 : decode cX13_takeOver 133 = .ok (.aload_n 0, 1) := by decide +kernel
theorem dX13_takeOver_134 : decode cX13_takeOver 134 = .ok (.iconst 0, 1) := by decide +kernel
theorem dX13_takeOver_135 : decode cX13_takeOver 135 = .ok (.putfield 331, 3) := by decide +kernel
theorem dX13_takeOver_138 : decode cX13_takeOver 138 = .ok (.aload_n 0, 1) := by decide +kernel
theorem dX13_takeOver_139 : decode cX13_takeOver 139 = .ok (.iconst 0, 1) := by decide +kernel
theorem dX13_takeOver_140 : decode cX13_takeOver 140 = .ok (.putfield 334, 3) := by decide +kernel
theorem dX13_takeOver_143 : decode cX13_takeOver 143 = .ok (.aload_n 0, 1) := by decide +kernel
theorem dX13_takeOver_144 : decode cX13_takeOver 144 = .ok (.iconst 0, 1) := by decide +kernel
theorem dX13_takeOver_145 : decode cX13_takeOver 145 = .ok (.putfield 337, 3) := by decide +kernel
theorem dX13_takeOver_148 : decode cX13_takeOver 148 = .ok (.aload_n 0, 1) := by decide +kernel
theorem dX13_takeOver_149 : decode cX13_takeOver 149 = .ok (.iconst (-1), 1) := by decide +kernel
theorem dX13_takeOver_150 : decode cX13_takeOver 150 = .ok (.putfield 130, 3) := by decide +kernel
theorem dX13_takeOver_153 : decode cX13_takeOver 153 = .ok (.aload_n 0, 1) := by decide +kernel
theorem dX13_takeOver_154 : decode cX13_takeOver 154 = .ok (.iconst 0, 1) := by decide +kernel
theorem dX13_takeOver_155 : decode cX13_takeOver 155 = .ok (.putfield 340, 3) := by decide +kernel
theorem dX13_takeOver_158 : decode cX13_takeOver 158 = .ok (.aload_n 0, 1) := by decide +kernel
theorem dX13_takeOver_159 : decode cX13_takeOver 159 = .ok (.iconst 0, 1) := by decide +kernel
theorem dX13_takeOver_160 : decode cX13_takeOver 160 = .ok (.putfield 344, 3) := by decide +kernel
theorem dX13_takeOver_163 : decode cX13_takeOver 163 = .ok (.return_, 1) := by decide +kernel
theorem dX13_fault_0 : decode cX13_fault 0 = .ok (.aload_n 0, 1) := by decide +kernel
theorem dX13_fault_1 : decode cX13_fault 1 = .ok (.iconst 0, 1) := by decide +kernel
theorem dX13_fault_2 : decode cX13_fault 2 = .ok (.putfield 173, 3) := by decide +kernel
theorem dX13_fault_5 : decode cX13_fault 5 = .ok (.aload_n 0, 1) := by decide +kernel
theorem dX13_fault_6 : decode cX13_fault 6 = .ok (.getfield 102, 3) := by decide +kernel
theorem dX13_fault_9 : decode cX13_fault 9 = .ok (.ireturn, 1) := by decide +kernel
theorem dX13_reckon_0 : decode cX13_reckon 0 = .ok (.iload_n 0, 1) := by decide +kernel
theorem dX13_reckon_1 : decode cX13_reckon 1 = .ok (.tableswitch 103 (-26) (-20) #[89, 78, 67, 55, 51, 47, 43], 43) := by decide +kernel
theorem dX13_reckon_44 : decode cX13_reckon 44 = .ok (.iload_n 1, 1) := by decide +kernel
theorem dX13_reckon_45 : decode cX13_reckon 45 = .ok (.iload_n 2, 1) := by decide +kernel
theorem dX13_reckon_46 : decode cX13_reckon 46 = .ok (.iadd, 1) := by decide +kernel
theorem dX13_reckon_47 : decode cX13_reckon 47 = .ok (.ireturn, 1) := by decide +kernel
theorem dX13_reckon_48 : decode cX13_reckon 48 = .ok (.iload_n 1, 1) := by decide +kernel
theorem dX13_reckon_49 : decode cX13_reckon 49 = .ok (.iload_n 2, 1) := by decide +kernel
theorem dX13_reckon_50 : decode cX13_reckon 50 = .ok (.isub, 1) := by decide +kernel
theorem dX13_reckon_51 : decode cX13_reckon 51 = .ok (.ireturn, 1) := by decide +kernel
theorem dX13_reckon_52 : decode cX13_reckon 52 = .ok (.iload_n 1, 1) := by decide +kernel
theorem dX13_reckon_53 : decode cX13_reckon 53 = .ok (.iload_n 2, 1) := by decide +kernel
theorem dX13_reckon_54 : decode cX13_reckon 54 = .ok (.imul, 1) := by decide +kernel
theorem dX13_reckon_55 : decode cX13_reckon 55 = .ok (.ireturn, 1) := by decide +kernel
theorem dX13_reckon_56 : decode cX13_reckon 56 = .ok (.iload_n 2, 1) := by decide +kernel
theorem dX13_reckon_57 : decode cX13_reckon 57 = .ok (.ifCond .ne 7, 3) := by decide +kernel
theorem dX13_reckon_60 : decode cX13_reckon 60 = .ok (.iconst 0, 1) := by decide +kernel
theorem dX13_reckon_61 : decode cX13_reckon 61 = .ok (.goto 6, 3) := by decide +kernel
theorem dX13_reckon_64 : decode cX13_reckon 64 = .ok (.iload_n 1, 1) := by decide +kernel
theorem dX13_reckon_65 : decode cX13_reckon 65 = .ok (.iload_n 2, 1) := by decide +kernel
theorem dX13_reckon_66 : decode cX13_reckon 66 = .ok (.idiv, 1) := by decide +kernel
theorem dX13_reckon_67 : decode cX13_reckon 67 = .ok (.ireturn, 1) := by decide +kernel
theorem dX13_reckon_68 : decode cX13_reckon 68 = .ok (.iload_n 1, 1) := by decide +kernel
theorem dX13_reckon_69 : decode cX13_reckon 69 = .ok (.iload_n 2, 1) := by decide +kernel
theorem dX13_reckon_70 : decode cX13_reckon 70 = .ok (.if_icmp .ge 7, 3) := by decide +kernel
theorem dX13_reckon_73 : decode cX13_reckon 73 = .ok (.iconst 1, 1) := by decide +kernel
theorem dX13_reckon_74 : decode cX13_reckon 74 = .ok (.goto 4, 3) := by decide +kernel
theorem dX13_reckon_77 : decode cX13_reckon 77 = .ok (.iconst 0, 1) := by decide +kernel
theorem dX13_reckon_78 : decode cX13_reckon 78 = .ok (.ireturn, 1) := by decide +kernel
theorem dX13_reckon_79 : decode cX13_reckon 79 = .ok (.iload_n 1, 1) := by decide +kernel
theorem dX13_reckon_80 : decode cX13_reckon 80 = .ok (.iload_n 2, 1) := by decide +kernel
theorem dX13_reckon_81 : decode cX13_reckon 81 = .ok (.if_icmp .ne 7, 3) := by decide +kernel
theorem dX13_reckon_84 : decode cX13_reckon 84 = .ok (.iconst 1, 1) := by decide +kernel
theorem dX13_reckon_85 : decode cX13_reckon 85 = .ok (.goto 4, 3) := by decide +kernel
theorem dX13_reckon_88 : decode cX13_reckon 88 = .ok (.iconst 0, 1) := by decide +kernel
theorem dX13_reckon_89 : decode cX13_reckon 89 = .ok (.ireturn, 1) := by decide +kernel
theorem dX13_reckon_90 : decode cX13_reckon 90 = .ok (.iload_n 1, 1) := by decide +kernel
theorem dX13_reckon_91 : decode cX13_reckon 91 = .ok (.ifCond .eq 11, 3) := by decide +kernel
theorem dX13_reckon_94 : decode cX13_reckon 94 = .ok (.iload_n 2, 1) := by decide +kernel
theorem dX13_reckon_95 : decode cX13_reckon 95 = .ok (.ifCond .eq 7, 3) := by decide +kernel
theorem dX13_reckon_98 : decode cX13_reckon 98 = .ok (.iconst 1, 1) := by decide +kernel
theorem dX13_reckon_99 : decode cX13_reckon 99 = .ok (.goto 4, 3) := by decide +kernel
theorem dX13_reckon_102 : decode cX13_reckon 102 = .ok (.iconst 0, 1) := by decide +kernel
theorem dX13_reckon_103 : decode cX13_reckon 103 = .ok (.ireturn, 1) := by decide +kernel
theorem dX13_reckon_104 : decode cX13_reckon 104 = .ok (.iload_n 1, 1) := by decide +kernel
theorem dX13_reckon_105 : decode cX13_reckon 105 = .ok (.ifCond .ne 7, 3) := by decide +kernel
theorem dX13_reckon_108 : decode cX13_reckon 108 = .ok (.iload_n 2, 1) := by decide +kernel
theorem dX13_reckon_109 : decode cX13_reckon 109 = .ok (.ifCond .eq 7, 3) := by decide +kernel
theorem dX13_reckon_112 : decode cX13_reckon 112 = .ok (.iconst 1, 1) := by decide +kernel
theorem dX13_reckon_113 : decode cX13_reckon 113 = .ok (.goto 4, 3) := by decide +kernel
theorem dX13_reckon_116 : decode cX13_reckon 116 = .ok (.iconst 0, 1) := by decide +kernel
theorem dX13_reckon_117 : decode cX13_reckon 117 = .ok (.ireturn, 1) := by decide +kernel
set_option maxRecDepth 20000 in
theorem ggX13_valueNow_X13_reckon : GoodIn wsX13_valueNow wsX13_reckon := goodIn_r _ [8] rfl (by decide +kernel)
set_option maxRecDepth 20000 in
theorem gX13_valueNow_X13_reckon : GoodIn wsX13_valueNow (va_wsS RX13 347 yX13_reckon wsX13_reckon) := goodIn_app (goodIn_of _ (by decide +kernel)) ggX13_valueNow_X13_reckon
theorem dX13_valueNow_0 : decode cX13_valueNow 0 = .ok (.iconst 0, 1) := by decide +kernel
theorem dX13_valueNow_1 : decode cX13_valueNow 1 = .ok (.istore_n 1, 1) := by decide +kernel
theorem dX13_valueNow_2 : decode cX13_valueNow 2 = .ok (.iconst 0, 1) := by decide +kernel
theorem dX13_valueNow_3 : decode cX13_valueNow 3 = .ok (.istore_n 2, 1) := by decide +kernel
theorem dX13_valueNow_4 : decode cX13_valueNow 4 = .ok (.iload_n 2, 1) := by decide +kernel
theorem dX13_valueNow_5 : decode cX13_valueNow 5 = .ok (.aload_n 0, 1) := by decide +kernel
theorem dX13_valueNow_6 : decode cX13_valueNow 6 = .ok (.getfield 40, 3) := by decide +kernel
theorem dX13_valueNow_9 : decode cX13_valueNow 9 = .ok (.bipush 6, 2) := by decide +kernel
theorem dX13_valueNow_11 : decode cX13_valueNow 11 = .ok (.iaload, 1) := by decide +kernel
theorem dX13_valueNow_12 : decode cX13_valueNow 12 = .ok (.if_icmp .ge 112, 3) := by decide +kernel
theorem dX13_valueNow_15 : decode cX13_valueNow 15 = .ok (.aload_n 0, 1) := by decide +kernel
theorem dX13_valueNow_16 : decode cX13_valueNow 16 = .ok (.getfield 93, 3) := by decide +kernel
theorem dX13_valueNow_19 : decode cX13_valueNow 19 = .ok (.iload_n 2, 1) := by decide +kernel
theorem dX13_valueNow_20 : decode cX13_valueNow 20 = .ok (.iaload, 1) := by decide +kernel
theorem dX13_valueNow_21 : decode cX13_valueNow 21 = .ok (.istore_n 3, 1) := by decide +kernel
theorem dX13_valueNow_22 : decode cX13_valueNow 22 = .ok (.iload_n 3, 1) := by decide +kernel
theorem dX13_valueNow_23 : decode cX13_valueNow 23 = .ok (.bipush (-20), 2) := by decide +kernel
theorem dX13_valueNow_25 : decode cX13_valueNow 25 = .ok (.if_icmp .le 31, 3) := by decide +kernel
theorem dX13_valueNow_28 : decode cX13_valueNow 28 = .ok (.aload_n 0, 1) := by decide +kernel
theorem dX13_valueNow_29 : decode cX13_valueNow 29 = .ok (.getfield 109, 3) := by decide +kernel
theorem dX13_valueNow_32 : decode cX13_valueNow 32 = .ok (.iload_n 1, 1) := by decide +kernel
theorem dX13_valueNow_33 : decode cX13_valueNow 33 = .ok (.iload_n 3, 1) := by decide +kernel
theorem dX13_valueNow_34 : decode cX13_valueNow 34 = .ok (.ifCond .lt 7, 3) := by decide +kernel
theorem dX13_valueNow_37 : decode cX13_valueNow 37 = .ok (.iload_n 3, 1) := by decide +kernel
theorem dX13_valueNow_38 : decode cX13_valueNow 38 = .ok (.goto 11, 3) := by decide +kernel
theorem dX13_valueNow_41 : decode cX13_valueNow 41 = .ok (.aload_n 0, 1) := by decide +kernel
theorem dX13_valueNow_42 : decode cX13_valueNow 42 = .ok (.getfield 106, 3) := by decide +kernel
theorem dX13_valueNow_45 : decode cX13_valueNow 45 = .ok (.iconst (-1), 1) := by decide +kernel
theorem dX13_valueNow_46 : decode cX13_valueNow 46 = .ok (.iload_n 3, 1) := by decide +kernel
theorem dX13_valueNow_47 : decode cX13_valueNow 47 = .ok (.isub, 1) := by decide +kernel
theorem dX13_valueNow_48 : decode cX13_valueNow 48 = .ok (.iaload, 1) := by decide +kernel
theorem dX13_valueNow_49 : decode cX13_valueNow 49 = .ok (.iastore, 1) := by decide +kernel
theorem dX13_valueNow_50 : decode cX13_valueNow 50 = .ok (.iinc 1 1, 3) := by decide +kernel
theorem dX13_valueNow_53 : decode cX13_valueNow 53 = .ok (.goto 65, 3) := by decide +kernel
theorem dX13_valueNow_56 : decode cX13_valueNow 56 = .ok (.iload_n 3, 1) := by decide +kernel
theorem dX13_valueNow_57 : decode cX13_valueNow 57 = .ok (.bipush (-28), 2) := by decide +kernel
theorem dX13_valueNow_59 : decode cX13_valueNow 59 = .ok (.if_icmp .ne 30, 3) := by decide +kernel
theorem dX13_valueNow_62 : decode cX13_valueNow 62 = .ok (.aload_n 0, 1) := by decide +kernel
theorem dX13_valueNow_63 : decode cX13_valueNow 63 = .ok (.getfield 109, 3) := by decide +kernel
theorem dX13_valueNow_66 : decode cX13_valueNow 66 = .ok (.iload_n 1, 1) := by decide +kernel
theorem dX13_valueNow_67 : decode cX13_valueNow 67 = .ok (.iconst 1, 1) := by decide +kernel
theorem dX13_valueNow_68 : decode cX13_valueNow 68 = .ok (.isub, 1) := by decide +kernel
theorem dX13_valueNow_69 : decode cX13_valueNow 69 = .ok (.aload_n 0, 1) := by decide +kernel
theorem dX13_valueNow_70 : decode cX13_valueNow 70 = .ok (.getfield 109, 3) := by decide +kernel
theorem dX13_valueNow_73 : decode cX13_valueNow 73 = .ok (.iload_n 1, 1) := by decide +kernel
theorem dX13_valueNow_74 : decode cX13_valueNow 74 = .ok (.iconst 1, 1) := by decide +kernel
theorem dX13_valueNow_75 : decode cX13_valueNow 75 = .ok (.isub, 1) := by decide +kernel
theorem dX13_valueNow_76 : decode cX13_valueNow 76 = .ok (.iaload, 1) := by decide +kernel
theorem dX13_valueNow_77 : decode cX13_valueNow 77 = .ok (.ifCond .eq 7, 3) := by decide +kernel
theorem dX13_valueNow_80 : decode cX13_valueNow 80 = .ok (.iconst 0, 1) := by decide +kernel
theorem dX13_valueNow_81 : decode cX13_valueNow 81 = .ok (.goto 4, 3) := by decide +kernel
theorem dX13_valueNow_84 : decode cX13_valueNow 84 = .ok (.iconst 1, 1) := by decide +kernel
theorem dX13_valueNow_85 : decode cX13_valueNow 85 = .ok (.iastore, 1) := by decide +kernel
theorem dX13_valueNow_86 : decode cX13_valueNow 86 = .ok (.goto 32, 3) := by decide +kernel
theorem dX13_valueNow_89 : decode cX13_valueNow 89 = .ok (.iinc 1 (-1), 3) := by decide +kernel
theorem dX13_valueNow_92 : decode cX13_valueNow 92 = .ok (.aload_n 0, 1) := by decide +kernel
theorem dX13_valueNow_93 : decode cX13_valueNow 93 = .ok (.getfield 109, 3) := by decide +kernel
theorem dX13_valueNow_96 : decode cX13_valueNow 96 = .ok (.iload_n 1, 1) := by decide +kernel
theorem dX13_valueNow_97 : decode cX13_valueNow 97 = .ok (.iconst 1, 1) := by decide +kernel
theorem dX13_valueNow_98 : decode cX13_valueNow 98 = .ok (.isub, 1) := by decide +kernel
theorem dX13_valueNow_99 : decode cX13_valueNow 99 = .ok (.iload_n 3, 1) := by decide +kernel
theorem dX13_valueNow_100 : decode cX13_valueNow 100 = .ok (.aload_n 0, 1) := by decide +kernel
theorem dX13_valueNow_101 : decode cX13_valueNow 101 = .ok (.getfield 109, 3) := by decide +kernel
theorem dX13_valueNow_104 : decode cX13_valueNow 104 = .ok (.iload_n 1, 1) := by decide +kernel
theorem dX13_valueNow_105 : decode cX13_valueNow 105 = .ok (.iconst 1, 1) := by decide +kernel
theorem dX13_valueNow_106 : decode cX13_valueNow 106 = .ok (.isub, 1) := by decide +kernel
theorem dX13_valueNow_107 : decode cX13_valueNow 107 = .ok (.iaload, 1) := by decide +kernel
theorem dX13_valueNow_108 : decode cX13_valueNow 108 = .ok (.aload_n 0, 1) := by decide +kernel
theorem dX13_valueNow_109 : decode cX13_valueNow 109 = .ok (.getfield 109, 3) := by decide +kernel
theorem dX13_valueNow_112 : decode cX13_valueNow 112 = .ok (.iload_n 1, 1) := by decide +kernel
theorem dX13_valueNow_113 : decode cX13_valueNow 113 = .ok (.iaload, 1) := by decide +kernel
theorem dX13_valueNow_114 : decode cX13_valueNow 114 = .ok (.invokestatic 347, 3) := by decide +kernel
theorem dX13_valueNow_117 : decode cX13_valueNow 117 = .ok (.iastore, 1) := by decide +kernel
theorem dX13_valueNow_118 : decode cX13_valueNow 118 = .ok (.iinc 2 1, 3) := by decide +kernel
theorem dX13_valueNow_121 : decode cX13_valueNow 121 = .ok (.goto (-117), 3) := by decide +kernel
theorem dX13_valueNow_124 : decode cX13_valueNow 124 = .ok (.aload_n 0, 1) := by decide +kernel
theorem dX13_valueNow_125 : decode cX13_valueNow 125 = .ok (.getfield 109, 3) := by decide +kernel
theorem dX13_valueNow_128 : decode cX13_valueNow 128 = .ok (.iconst 0, 1) := by decide +kernel
theorem dX13_valueNow_129 : decode cX13_valueNow 129 = .ok (.iaload, 1) := by decide +kernel
theorem dX13_valueNow_130 : decode cX13_valueNow 130 = .ok (.ireturn, 1) := by decide +kernel
theorem dX13_sumAt_0 : decode cX13_sumAt 0 = .ok (.iconst 0, 1) := by decide +kernel
theorem dX13_sumAt_1 : decode cX13_sumAt 1 = .ok (.istore_n 3, 1) := by decide +kernel
theorem dX13_sumAt_2 : decode cX13_sumAt 2 = .ok (.iconst 0, 1) := by decide +kernel
theorem dX13_sumAt_3 : decode cX13_sumAt 3 = .ok (.istore 4, 2) := by decide +kernel
theorem dX13_sumAt_5 : decode cX13_sumAt 5 = .ok (.iload 4, 2) := by decide +kernel
theorem dX13_sumAt_7 : decode cX13_sumAt 7 = .ok (.aload_n 0, 1) := by decide +kernel
theorem dX13_sumAt_8 : decode cX13_sumAt 8 = .ok (.getfield 40, 3) := by decide +kernel
theorem dX13_sumAt_11 : decode cX13_sumAt 11 = .ok (.iconst 2, 1) := by decide +kernel
theorem dX13_sumAt_12 : decode cX13_sumAt 12 = .ok (.iaload, 1) := by decide +kernel
theorem dX13_sumAt_13 : decode cX13_sumAt 13 = .ok (.if_icmp .ge 134, 3) := by decide +kernel
theorem dX13_sumAt_16 : decode cX13_sumAt 16 = .ok (.aload_n 0, 1) := by decide +kernel
theorem dX13_sumAt_17 : decode cX13_sumAt 17 = .ok (.getfield 84, 3) := by decide +kernel
theorem dX13_sumAt_20 : decode cX13_sumAt 20 = .ok (.iload 4, 2) := by decide +kernel
theorem dX13_sumAt_22 : decode cX13_sumAt 22 = .ok (.iaload, 1) := by decide +kernel
theorem dX13_sumAt_23 : decode cX13_sumAt 23 = .ok (.iload_n 1, 1) := by decide +kernel
theorem dX13_sumAt_24 : decode cX13_sumAt 24 = .ok (.if_icmp .eq 6, 3) := by decide +kernel
theorem dX13_sumAt_27 : decode cX13_sumAt 27 = .ok (.goto 114, 3) := by decide +kernel
theorem dX13_sumAt_30 : decode cX13_sumAt 30 = .ok (.aload_n 0, 1) := by decide +kernel
theorem dX13_sumAt_31 : decode cX13_sumAt 31 = .ok (.getfield 66, 3) := by decide +kernel
theorem dX13_sumAt_34 : decode cX13_sumAt 34 = .ok (.iload 4, 2) := by decide +kernel
theorem dX13_sumAt_36 : decode cX13_sumAt 36 = .ok (.iaload, 1) := by decide +kernel
theorem dX13_sumAt_37 : decode cX13_sumAt 37 = .ok (.iconst 1, 1) := by decide +kernel
theorem dX13_sumAt_38 : decode cX13_sumAt 38 = .ok (.if_icmp .ne 7, 3) := by decide +kernel
theorem dX13_sumAt_41 : decode cX13_sumAt 41 = .ok (.iconst 1, 1) := by decide +kernel
theorem dX13_sumAt_42 : decode cX13_sumAt 42 = .ok (.goto 4, 3) := by decide +kernel
theorem dX13_sumAt_45 : decode cX13_sumAt 45 = .ok (.iconst 0, 1) := by decide +kernel
theorem dX13_sumAt_46 : decode cX13_sumAt 46 = .ok (.istore 5, 2) := by decide +kernel
theorem dX13_sumAt_48 : decode cX13_sumAt 48 = .ok (.iload_n 3, 1) := by decide +kernel
theorem dX13_sumAt_49 : decode cX13_sumAt 49 = .ok (.iload_n 2, 1) := by decide +kernel
theorem dX13_sumAt_50 : decode cX13_sumAt 50 = .ok (.ifCond .ne 7, 3) := by decide +kernel
theorem dX13_sumAt_53 : decode cX13_sumAt 53 = .ok (.iconst 1, 1) := by decide +kernel
theorem dX13_sumAt_54 : decode cX13_sumAt 54 = .ok (.goto 85, 3) := by decide +kernel
theorem dX13_sumAt_57 : decode cX13_sumAt 57 = .ok (.iload_n 2, 1) := by decide +kernel
theorem dX13_sumAt_58 : decode cX13_sumAt 58 = .ok (.iconst 1, 1) := by decide +kernel
theorem dX13_sumAt_59 : decode cX13_sumAt 59 = .ok (.if_icmp .ne 13, 3) := by decide +kernel
theorem dX13_sumAt_62 : decode cX13_sumAt 62 = .ok (.aload_n 0, 1) := by decide +kernel
theorem dX13_sumAt_63 : decode cX13_sumAt 63 = .ok (.getfield 69, 3) := by decide +kernel
theorem dX13_sumAt_66 : decode cX13_sumAt 66 = .ok (.iload 4, 2) := by decide +kernel
theorem dX13_sumAt_68 : decode cX13_sumAt 68 = .ok (.iaload, 1) := by decide +kernel
theorem dX13_sumAt_69 : decode cX13_sumAt 69 = .ok (.goto 70, 3) := by decide +kernel
theorem dX13_sumAt_72 : decode cX13_sumAt 72 = .ok (.iload_n 2, 1) := by decide +kernel
theorem dX13_sumAt_73 : decode cX13_sumAt 73 = .ok (.iconst 2, 1) := by decide +kernel
theorem dX13_sumAt_74 : decode cX13_sumAt 74 = .ok (.if_icmp .ne 13, 3) := by decide +kernel
theorem dX13_sumAt_77 : decode cX13_sumAt 77 = .ok (.aload_n 0, 1) := by decide +kernel
theorem dX13_sumAt_78 : decode cX13_sumAt 78 = .ok (.getfield 75, 3) := by decide +kernel
theorem dX13_sumAt_81 : decode cX13_sumAt 81 = .ok (.iload 4, 2) := by decide +kernel
theorem dX13_sumAt_83 : decode cX13_sumAt 83 = .ok (.iaload, 1) := by decide +kernel
theorem dX13_sumAt_84 : decode cX13_sumAt 84 = .ok (.goto 55, 3) := by decide +kernel
theorem dX13_sumAt_87 : decode cX13_sumAt 87 = .ok (.iload_n 2, 1) := by decide +kernel
theorem dX13_sumAt_88 : decode cX13_sumAt 88 = .ok (.iconst 3, 1) := by decide +kernel
theorem dX13_sumAt_89 : decode cX13_sumAt 89 = .ok (.if_icmp .ne 22, 3) := by decide +kernel
theorem dX13_sumAt_92 : decode cX13_sumAt 92 = .ok (.iload 5, 2) := by decide +kernel
theorem dX13_sumAt_94 : decode cX13_sumAt 94 = .ok (.ifCond .eq 13, 3) := by decide +kernel
theorem dX13_sumAt_97 : decode cX13_sumAt 97 = .ok (.aload_n 0, 1) := by decide +kernel
theorem dX13_sumAt_98 : decode cX13_sumAt 98 = .ok (.getfield 81, 3) := by decide +kernel
theorem dX13_sumAt_101 : decode cX13_sumAt 101 = .ok (.iload 4, 2) := by decide +kernel
theorem dX13_sumAt_103 : decode cX13_sumAt 103 = .ok (.iaload, 1) := by decide +kernel
theorem dX13_sumAt_104 : decode cX13_sumAt 104 = .ok (.goto 35, 3) := by decide +kernel
theorem dX13_sumAt_107 : decode cX13_sumAt 107 = .ok (.iconst 0, 1) := by decide +kernel
theorem dX13_sumAt_108 : decode cX13_sumAt 108 = .ok (.goto 31, 3) := by decide +kernel
theorem dX13_sumAt_111 : decode cX13_sumAt 111 = .ok (.iload_n 2, 1) := by decide +kernel
theorem dX13_sumAt_112 : decode cX13_sumAt 112 = .ok (.iconst 4, 1) := by decide +kernel
theorem dX13_sumAt_113 : decode cX13_sumAt 113 = .ok (.if_icmp .ne 22, 3) := by decide +kernel
theorem dX13_sumAt_116 : decode cX13_sumAt 116 = .ok (.iload 5, 2) := by decide +kernel
theorem dX13_sumAt_118 : decode cX13_sumAt 118 = .ok (.ifCond .eq 7, 3) := by decide +kernel
theorem dX13_sumAt_121 : decode cX13_sumAt 121 = .ok (.iconst 0, 1) := by decide +kernel
theorem dX13_sumAt_122 : decode cX13_sumAt 122 = .ok (.goto 17, 3) := by decide +kernel
theorem dX13_sumAt_125 : decode cX13_sumAt 125 = .ok (.aload_n 0, 1) := by decide +kernel
theorem dX13_sumAt_126 : decode cX13_sumAt 126 = .ok (.getfield 75, 3) := by decide +kernel
theorem dX13_sumAt_129 : decode cX13_sumAt 129 = .ok (.iload 4, 2) := by decide +kernel
theorem dX13_sumAt_131 : decode cX13_sumAt 131 = .ok (.iaload, 1) := by decide +kernel
theorem dX13_sumAt_132 : decode cX13_sumAt 132 = .ok (.goto 7, 3) := by decide +kernel
theorem dX13_sumAt_135 : decode cX13_sumAt 135 = .ok (.iconst 1, 1) := by decide +kernel
theorem dX13_sumAt_136 : decode cX13_sumAt 136 = .ok (.iload 4, 2) := by decide +kernel
theorem dX13_sumAt_138 : decode cX13_sumAt 138 = .ok (.ishl, 1) := by decide +kernel
theorem dX13_sumAt_139 : decode cX13_sumAt 139 = .ok (.iadd, 1) := by decide +kernel
theorem dX13_sumAt_140 : decode cX13_sumAt 140 = .ok (.istore_n 3, 1) := by decide +kernel
theorem dX13_sumAt_141 : decode cX13_sumAt 141 = .ok (.iinc 4 1, 3) := by decide +kernel
theorem dX13_sumAt_144 : decode cX13_sumAt 144 = .ok (.goto (-139), 3) := by decide +kernel
theorem dX13_sumAt_147 : decode cX13_sumAt 147 = .ok (.iload_n 3, 1) := by decide +kernel
theorem dX13_sumAt_148 : decode cX13_sumAt 148 = .ok (.ireturn, 1) := by decide +kernel
set_option maxRecDepth 20000 in
theorem ggX13_overOf_X13_sumAt : GoodIn wsX13_overOf wsX13_sumAt := goodIn_r _ [10, 11, 12, 13, 14, 15, 16, 17, 18, 19, 20, 21, 22, 23, 24, 25, 26, 27, 28, 29, 30, 31, 32, 33, 34, 35, 36, 37, 38, 39, 40, 41, 42, 43, 44, 45, 46, 47, 48, 49, 50, 51, 52, 53, 54, 55, 56, 57, 58, 59, 60, 61, 62, 63, 64, 65, 66, 67, 68, 69, 70, 71, 72, 73, 74, 75, 76, 77, 78, 79, 80, 81, 82, 83] rfl (by decide +kernel)
set_option maxRecDepth 20000 in
theorem gX13_overOf_X13_sumAt : GoodIn wsX13_overOf (wsV RX13 351 RX13 yX13_sumAt wsX13_sumAt) := goodIn_app (goodIn_of _ (by decide +kernel)) ggX13_overOf_X13_sumAt
theorem dX13_overOf_0 : decode cX13_overOf 0 = .ok (.iconst 0, 1) := by decide +kernel
theorem dX13_overOf_1 : decode cX13_overOf 1 = .ok (.aload_n 0, 1) := by decide +kernel
theorem dX13_overOf_2 : decode cX13_overOf 2 = .ok (.iload_n 1, 1) := by decide +kernel
theorem dX13_overOf_3 : decode cX13_overOf 3 = .ok (.iconst 1, 1) := by decide +kernel
theorem dX13_overOf_4 : decode cX13_overOf 4 = .ok (.invokevirtual 351, 3) := by decide +kernel
theorem dX13_overOf_7 : decode cX13_overOf 7 = .ok (.aload_n 0, 1) := by decide +kernel
theorem dX13_overOf_8 : decode cX13_overOf 8 = .ok (.getfield 56, 3) := by decide +kernel
theorem dX13_overOf_11 : decode cX13_overOf 11 = .ok (.iload_n 1, 1) := by decide +kernel
theorem dX13_overOf_12 : decode cX13_overOf 12 = .ok (.iaload, 1) := by decide +kernel
theorem dX13_overOf_13 : decode cX13_overOf 13 = .ok (.isub, 1) := by decide +kernel
theorem dX13_overOf_14 : decode cX13_overOf 14 = .ok (.invokestatic 354, 3) := by decide +kernel
theorem dX13_overOf_17 : decode cX13_overOf 17 = .ok (.ireturn, 1) := by decide +kernel
set_option maxRecDepth 20000 in
theorem ggX13_feeBy_X13_valueNow : GoodIn wsX13_feeBy wsX13_valueNow := goodIn_r _ [16, 6, 17, 18, 10, 19, 20, 15, 21, 22, 23, 24, 25, 26, 27, 28, 29, 30, 31, 32, 33, 34, 35, 36, 37, 38, 39, 40, 41, 42, 43, 44, 45, 46, 47, 48, 49, 50, 51, 52, 53, 54, 55, 56, 57, 58, 59, 60, 61, 62, 63, 64, 65, 66, 67, 68, 69, 70, 71, 72, 73, 74, 75, 76, 77, 78, 79, 80, 81, 82, 83, 84, 85, 86, 87, 88] rfl (by decide +kernel)
set_option maxRecDepth 20000 in
theorem gX13_feeBy_X13_valueNow : GoodIn wsX13_feeBy (wsV RX13 357 RX13 yX13_valueNow wsX13_valueNow) := goodIn_app (goodIn_of _ (by decide +kernel)) ggX13_feeBy_X13_valueNow
theorem dX13_feeBy_0 : decode cX13_feeBy 0 = .ok (.iconst 0, 1) := by decide +kernel
theorem dX13_feeBy_1 : decode cX13_feeBy 1 = .ok (.iload_n 2, 1) := by decide +kernel
theorem dX13_feeBy_2 : decode cX13_feeBy 2 = .ok (.aload_n 0, 1) := by decide +kernel
theorem dX13_feeBy_3 : decode cX13_feeBy 3 = .ok (.getfield 56, 3) := by decide +kernel
theorem dX13_feeBy_6 : decode cX13_feeBy 6 = .ok (.iload_n 1, 1) := by decide +kernel
theorem dX13_feeBy_7 : decode cX13_feeBy 7 = .ok (.iaload, 1) := by decide +kernel
theorem dX13_feeBy_8 : decode cX13_feeBy 8 = .ok (.isub, 1) := by decide +kernel
theorem dX13_feeBy_9 : decode cX13_feeBy 9 = .ok (.invokestatic 354, 3) := by decide +kernel
theorem dX13_feeBy_12 : decode cX13_feeBy 12 = .ok (.istore 4, 2) := by decide +kernel
theorem dX13_feeBy_14 : decode cX13_feeBy 14 = .ok (.iload 4, 2) := by decide +kernel
theorem dX13_feeBy_16 : decode cX13_feeBy 16 = .ok (.ifCond .ne 5, 3) := by decide +kernel
theorem dX13_feeBy_19 : decode cX13_feeBy 19 = .ok (.iconst 0, 1) := by decide +kernel
theorem dX13_feeBy_20 : decode cX13_feeBy 20 = .ok (.ireturn, 1) := by decide +kernel
theorem dX13_feeBy_21 : decode cX13_feeBy 21 = .ok (.aload_n 0, 1) := by decide +kernel
theorem dX13_feeBy_22 : decode cX13_feeBy 22 = .ok (.getfield 40, 3) := by decide +kernel
theorem dX13_feeBy_25 : decode cX13_feeBy 25 = .ok (.bipush 6, 2) := by decide +kernel
theorem dX13_feeBy_27 : decode cX13_feeBy 27 = .ok (.iaload, 1) := by decide +kernel
theorem dX13_feeBy_28 : decode cX13_feeBy 28 = .ok (.ifCond .ne 15, 3) := by decide +kernel
theorem dX13_feeBy_31 : decode cX13_feeBy 31 = .ok (.sipush 9999, 3) := by decide +kernel
theorem dX13_feeBy_34 : decode cX13_feeBy 34 = .ok (.bipush 10, 2) := by decide +kernel
theorem dX13_feeBy_36 : decode cX13_feeBy 36 = .ok (.iload 4, 2) := by decide +kernel
theorem dX13_feeBy_38 : decode cX13_feeBy 38 = .ok (.imul, 1) := by decide +kernel
theorem dX13_feeBy_39 : decode cX13_feeBy 39 = .ok (.invokestatic 210, 3) := by decide +kernel
theorem dX13_feeBy_42 : decode cX13_feeBy 42 = .ok (.ireturn, 1) := by decide +kernel
theorem dX13_feeBy_43 : decode cX13_feeBy 43 = .ok (.aload_n 0, 1) := by decide +kernel
theorem dX13_feeBy_44 : decode cX13_feeBy 44 = .ok (.getfield 106, 3) := by decide +kernel
theorem dX13_feeBy_47 : decode cX13_feeBy 47 = .ok (.iconst 0, 1) := by decide +kernel
theorem dX13_feeBy_48 : decode cX13_feeBy 48 = .ok (.iload 4, 2) := by decide +kernel
theorem dX13_feeBy_50 : decode cX13_feeBy 50 = .ok (.iastore, 1) := by decide +kernel
theorem dX13_feeBy_51 : decode cX13_feeBy 51 = .ok (.aload_n 0, 1) := by decide +kernel
theorem dX13_feeBy_52 : decode cX13_feeBy 52 = .ok (.getfield 106, 3) := by decide +kernel
theorem dX13_feeBy_55 : decode cX13_feeBy 55 = .ok (.iconst 1, 1) := by decide +kernel
theorem dX13_feeBy_56 : decode cX13_feeBy 56 = .ok (.iload_n 2, 1) := by decide +kernel
theorem dX13_feeBy_57 : decode cX13_feeBy 57 = .ok (.iastore, 1) := by decide +kernel
theorem dX13_feeBy_58 : decode cX13_feeBy 58 = .ok (.aload_n 0, 1) := by decide +kernel
theorem dX13_feeBy_59 : decode cX13_feeBy 59 = .ok (.getfield 106, 3) := by decide +kernel
theorem dX13_feeBy_62 : decode cX13_feeBy 62 = .ok (.iconst 2, 1) := by decide +kernel
theorem dX13_feeBy_63 : decode cX13_feeBy 63 = .ok (.aload_n 0, 1) := by decide +kernel
theorem dX13_feeBy_64 : decode cX13_feeBy 64 = .ok (.getfield 56, 3) := by decide +kernel
theorem dX13_feeBy_67 : decode cX13_feeBy 67 = .ok (.iload_n 1, 1) := by decide +kernel
theorem dX13_feeBy_68 : decode cX13_feeBy 68 = .ok (.iaload, 1) := by decide +kernel
theorem dX13_feeBy_69 : decode cX13_feeBy 69 = .ok (.iastore, 1) := by decide +kernel
theorem dX13_feeBy_70 : decode cX13_feeBy 70 = .ok (.aload_n 0, 1) := by decide +kernel
theorem dX13_feeBy_71 : decode cX13_feeBy 71 = .ok (.getfield 106, 3) := by decide +kernel
theorem dX13_feeBy_74 : decode cX13_feeBy 74 = .ok (.iconst 3, 1) := by decide +kernel
theorem dX13_feeBy_75 : decode cX13_feeBy 75 = .ok (.iload_n 3, 1) := by decide +kernel
theorem dX13_feeBy_76 : decode cX13_feeBy 76 = .ok (.iastore, 1) := by decide +kernel
theorem dX13_feeBy_77 : decode cX13_feeBy 77 = .ok (.aload_n 0, 1) := by decide +kernel
theorem dX13_feeBy_78 : decode cX13_feeBy 78 = .ok (.getfield 106, 3) := by decide +kernel
theorem dX13_feeBy_81 : decode cX13_feeBy 81 = .ok (.iconst 4, 1) := by decide +kernel
theorem dX13_feeBy_82 : decode cX13_feeBy 82 = .ok (.aload_n 0, 1) := by decide +kernel
theorem dX13_feeBy_83 : decode cX13_feeBy 83 = .ok (.getfield 64, 3) := by decide +kernel
theorem dX13_feeBy_86 : decode cX13_feeBy 86 = .ok (.iload_n 1, 1) := by decide +kernel
theorem dX13_feeBy_87 : decode cX13_feeBy 87 = .ok (.iaload, 1) := by decide +kernel
theorem dX13_feeBy_88 : decode cX13_feeBy 88 = .ok (.iastore, 1) := by decide +kernel
theorem dX13_feeBy_89 : decode cX13_feeBy 89 = .ok (.iconst 0, 1) := by decide +kernel
theorem dX13_feeBy_90 : decode cX13_feeBy 90 = .ok (.sipush 9999, 3) := by decide +kernel
theorem dX13_feeBy_93 : decode cX13_feeBy 93 = .ok (.aload_n 0, 1) := by decide +kernel
theorem dX13_feeBy_94 : decode cX13_feeBy 94 = .ok (.invokevirtual 357, 3) := by decide +kernel
theorem dX13_feeBy_97 : decode cX13_feeBy 97 = .ok (.invokestatic 210, 3) := by decide +kernel
theorem dX13_feeBy_100 : decode cX13_feeBy 100 = .ok (.invokestatic 354, 3) := by decide +kernel
theorem dX13_feeBy_103 : decode cX13_feeBy 103 = .ok (.ireturn, 1) := by decide +kernel
set_option maxRecDepth 20000 in
theorem ggX13_feeOf_X13_sumAt : GoodIn wsX13_feeOf wsX13_sumAt := goodIn_r _ [5, 6, 7, 8, 9, 10, 11, 35, 36, 37, 38, 39, 40, 41, 42, 43, 44, 45, 46, 47, 48, 49, 50, 51, 52, 53, 54, 55, 56, 57, 58, 59, 60, 61, 62, 63, 64, 65, 66, 67, 68, 69, 70, 71, 72, 73, 74, 75, 76, 77, 78, 79, 80, 81, 82, 83, 84, 85, 86, 87, 88, 89, 90, 91, 92, 93, 94, 95, 96, 97, 98, 99, 100, 101] rfl (by decide +kernel)
set_option maxRecDepth 20000 in
theorem gX13_feeOf_X13_sumAt : GoodIn wsX13_feeOf (wsV RX13 351 RX13 yX13_sumAt wsX13_sumAt) := goodIn_app (goodIn_of _ (by decide +kernel)) ggX13_feeOf_X13_sumAt
set_option maxRecDepth 20000 in
theorem ggX13_feeOf_X13_feeBy : GoodIn wsX13_feeOf wsX13_feeBy := goodIn_r _ [15, 16, 17, 18, 19, 20, 6, 21, 22, 23, 24, 25, 26, 27, 28, 4, 29, 30, 31, 32, 33, 34, 35, 36, 37, 38, 39, 40, 41, 42, 43, 44, 45, 46, 47, 48, 49, 50, 51, 52, 53, 54, 55, 56, 57, 58, 59, 60, 61, 62, 63, 64, 65, 66, 67, 68, 69, 70, 71, 72, 73, 74, 75, 76, 77, 78, 79, 80, 81, 82, 83, 84, 85, 86, 87, 88, 89, 90, 91, 92, 93, 94, 95, 96, 97, 98, 99, 100, 101] rfl (by decide +kernel)
set_option maxRecDepth 20000 in
theorem gX13_feeOf_X13_feeBy : GoodIn wsX13_feeOf (wsV RX13 360 RX13 yX13_feeBy wsX13_feeBy) := goodIn_app (goodIn_of _ (by decide +kernel)) ggX13_feeOf_X13_feeBy
theorem dX13_feeOf_0 : decode cX13_feeOf 0 = .ok (.aload_n 0, 1) := by decide +kernel
theorem dX13_feeOf_1 : decode cX13_feeOf 1 = .ok (.iload_n 1, 1) := by decide +kernel
theorem dX13_feeOf_2 : decode cX13_feeOf 2 = .ok (.aload_n 0, 1) := by decide +kernel
theorem dX13_feeOf_3 : decode cX13_feeOf 3 = .ok (.iload_n 1, 1) := by decide +kernel
theorem dX13_feeOf_4 : decode cX13_feeOf 4 = .ok (.iconst 1, 1) := by decide +kernel
theorem dX13_feeOf_5 : decode cX13_feeOf 5 = .ok (.invokevirtual 351, 3) := by decide +kernel
theorem dX13_feeOf_8 : decode cX13_feeOf 8 = .ok (.aload_n 0, 1) := by decide +kernel
theorem dX13_feeOf_9 : decode cX13_feeOf 9 = .ok (.iload_n 1, 1) := by decide +kernel
theorem dX13_feeOf_10 : decode cX13_feeOf 10 = .ok (.iconst 0, 1) := by decide +kernel
theorem dX13_feeOf_11 : decode cX13_feeOf 11 = .ok (.invokevirtual 351, 3) := by decide +kernel
theorem dX13_feeOf_14 : decode cX13_feeOf 14 = .ok (.invokevirtual 360, 3) := by decide +kernel
theorem dX13_feeOf_17 : decode cX13_feeOf 17 = .ok (.ireturn, 1) := by decide +kernel
theorem dX13_priceOf_0 : decode cX13_priceOf 0 = .ok (.iconst 0, 1) := by decide +kernel
theorem dX13_priceOf_1 : decode cX13_priceOf 1 = .ok (.istore_n 2, 1) := by decide +kernel
theorem dX13_priceOf_2 : decode cX13_priceOf 2 = .ok (.iload_n 2, 1) := by decide +kernel
theorem dX13_priceOf_3 : decode cX13_priceOf 3 = .ok (.aload_n 0, 1) := by decide +kernel
theorem dX13_priceOf_4 : decode cX13_priceOf 4 = .ok (.getfield 40, 3) := by decide +kernel
theorem dX13_priceOf_7 : decode cX13_priceOf 7 = .ok (.iconst 3, 1) := by decide +kernel
theorem dX13_priceOf_8 : decode cX13_priceOf 8 = .ok (.iaload, 1) := by decide +kernel
theorem dX13_priceOf_9 : decode cX13_priceOf 9 = .ok (.if_icmp .ge 31, 3) := by decide +kernel
theorem dX13_priceOf_12 : decode cX13_priceOf 12 = .ok (.aload_n 0, 1) := by decide +kernel
theorem dX13_priceOf_13 : decode cX13_priceOf 13 = .ok (.getfield 69, 3) := by decide +kernel
theorem dX13_priceOf_16 : decode cX13_priceOf 16 = .ok (.iload_n 1, 1) := by decide +kernel
theorem dX13_priceOf_17 : decode cX13_priceOf 17 = .ok (.iaload, 1) := by decide +kernel
theorem dX13_priceOf_18 : decode cX13_priceOf 18 = .ok (.aload_n 0, 1) := by decide +kernel
theorem dX13_priceOf_19 : decode cX13_priceOf 19 = .ok (.getfield 87, 3) := by decide +kernel
theorem dX13_priceOf_22 : decode cX13_priceOf 22 = .ok (.iload_n 2, 1) := by decide +kernel
theorem dX13_priceOf_23 : decode cX13_priceOf 23 = .ok (.iaload, 1) := by decide +kernel
theorem dX13_priceOf_24 : decode cX13_priceOf 24 = .ok (.if_icmp .gt 10, 3) := by decide +kernel
theorem dX13_priceOf_27 : decode cX13_priceOf 27 = .ok (.aload_n 0, 1) := by decide +kernel
theorem dX13_priceOf_28 : decode cX13_priceOf 28 = .ok (.getfield 90, 3) := by decide +kernel
theorem dX13_priceOf_31 : decode cX13_priceOf 31 = .ok (.iload_n 2, 1) := by decide +kernel
theorem dX13_priceOf_32 : decode cX13_priceOf 32 = .ok (.iaload, 1) := by decide +kernel
theorem dX13_priceOf_33 : decode cX13_priceOf 33 = .ok (.ireturn, 1) := by decide +kernel
theorem dX13_priceOf_34 : decode cX13_priceOf 34 = .ok (.iinc 2 1, 3) := by decide +kernel
theorem dX13_priceOf_37 : decode cX13_priceOf 37 = .ok (.goto (-35), 3) := by decide +kernel
theorem dX13_priceOf_40 : decode cX13_priceOf 40 = .ok (.iconst (-1), 1) := by decide +kernel
theorem dX13_priceOf_41 : decode cX13_priceOf 41 = .ok (.ireturn, 1) := by decide +kernel
set_option maxRecDepth 20000 in
theorem ggX13_mayBe_X13_isCase : GoodIn wsX13_mayBe wsX13_isCase := goodIn_r _ [13, 14, 15, 16, 12, 17, 33, 34, 35, 36, 37, 38, 39, 40, 41, 42, 43, 44, 45, 46, 47, 48, 49, 50, 51, 52, 53, 54, 55, 56, 57, 58, 59, 60, 61, 62, 63, 64, 65, 66, 67, 68, 69, 70, 71, 72, 73, 74, 75, 76, 77, 78, 79, 80, 81, 82, 83, 84, 85, 86, 87, 88, 89, 90, 91, 92, 93, 94, 95, 96, 97, 98, 99] rfl (by decide +kernel)
set_option maxRecDepth 20000 in
theorem gX13_mayBe_X13_isCase : GoodIn wsX13_mayBe (wsV RX13 363 RX13 yX13_isCase wsX13_isCase) := goodIn_app (goodIn_of _ (by decide +kernel)) ggX13_mayBe_X13_isCase
set_option maxRecDepth 20000 in
theorem ggX13_mayBe_X13_sumAt : GoodIn wsX13_mayBe wsX13_sumAt := goodIn_r _ [21, 14, 1, 4, 22, 2, 6, 33, 34, 35, 36, 37, 38, 39, 40, 41, 42, 43, 44, 45, 46, 47, 48, 49, 50, 51, 52, 53, 54, 55, 56, 57, 58, 59, 60, 61, 62, 63, 64, 65, 66, 67, 68, 69, 70, 71, 72, 73, 74, 75, 76, 77, 78, 79, 80, 81, 82, 83, 84, 85, 86, 87, 88, 89, 90, 91, 92, 93, 94, 95, 96, 97, 98, 99] rfl (by decide +kernel)
set_option maxRecDepth 20000 in
theorem gX13_mayBe_X13_sumAt : GoodIn wsX13_mayBe (wsV RX13 351 RX13 yX13_sumAt wsX13_sumAt) := goodIn_app (goodIn_of _ (by decide +kernel)) ggX13_mayBe_X13_sumAt
set_option maxRecDepth 20000 in
theorem ggX13_mayBe_X13_isPerson : GoodIn wsX13_mayBe wsX13_isPerson := goodIn_r _ [26, 14, 15, 16, 12, 17, 33, 34, 35, 36, 37, 38, 39, 40, 41, 42, 43, 44, 45, 46, 47, 48, 49, 50, 51, 52, 53, 54, 55, 56, 57, 58, 59, 60, 61, 62, 63, 64, 65, 66, 67, 68, 69, 70, 71, 72, 73, 74, 75, 76, 77, 78, 79, 80, 81, 82, 83, 84, 85, 86, 87, 88, 89, 90, 91, 92, 93, 94, 95, 96, 97, 98, 99] rfl (by decide +kernel)
set_option maxRecDepth 20000 in
theorem gX13_mayBe_X13_isPerson : GoodIn wsX13_mayBe (wsV RX13 366 RX13 yX13_isPerson wsX13_isPerson) := goodIn_app (goodIn_of _ (by decide +kernel)) ggX13_mayBe_X13_isPerson
set_option maxRecDepth 20000 in
theorem ggX13_mayBe_X13_priceOf : GoodIn wsX13_mayBe wsX13_priceOf := goodIn_r _ [30, 14, 22, 31, 32, 33, 34, 35, 36, 37, 38, 39, 40, 41, 42, 43, 44, 45, 46, 47, 48, 49, 50, 51, 52, 53, 54, 55, 56, 57, 58, 59, 60, 61, 62, 63, 64, 65, 66, 67, 68, 69, 70, 71, 72, 73, 74, 75, 76, 77, 78, 79, 80, 81, 82, 83, 84, 85, 86, 87, 88, 89, 90, 91, 92, 93, 94, 95, 96, 97, 98, 99] rfl (by decide +kernel)
set_option maxRecDepth 20000 in
theorem gX13_mayBe_X13_priceOf : GoodIn wsX13_mayBe (wsV RX13 369 RX13 yX13_priceOf wsX13_priceOf) := goodIn_app (goodIn_of _ (by decide +kernel)) ggX13_mayBe_X13_priceOf
theorem dX13_mayBe_0 : decode cX13_mayBe 0 = .ok (.aload_n 0, 1) := by decide +kernel
theorem dX13_mayBe_1 : decode cX13_mayBe 1 = .ok (.getfield 84, 3) := by decide +kernel
theorem dX13_mayBe_4 : decode cX13_mayBe 4 = .ok (.iload_n 1, 1) := by decide +kernel
theorem dX13_mayBe_5 : decode cX13_mayBe 5 = .ok (.iaload, 1) := by decide +kernel
theorem dX13_mayBe_6 : decode cX13_mayBe 6 = .ok (.iload_n 2, 1) := by decide +kernel
theorem dX13_mayBe_7 : decode cX13_mayBe 7 = .ok (.if_icmp .eq 14, 3) := by decide +kernel
theorem dX13_mayBe_10 : decode cX13_mayBe 10 = .ok (.aload_n 0, 1) := by decide +kernel
theorem dX13_mayBe_11 : decode cX13_mayBe 11 = .ok (.getfield 84, 3) := by decide +kernel
theorem dX13_mayBe_14 : decode cX13_mayBe 14 = .ok (.iload_n 1, 1) := by decide +kernel
theorem dX13_mayBe_15 : decode cX13_mayBe 15 = .ok (.iaload, 1) := by decide +kernel
theorem dX13_mayBe_16 : decode cX13_mayBe 16 = .ok (.bipush 20, 2) := by decide +kernel
theorem dX13_mayBe_18 : decode cX13_mayBe 18 = .ok (.if_icmp .lt 5, 3) := by decide +kernel
theorem dX13_mayBe_21 : decode cX13_mayBe 21 = .ok (.iconst 0, 1) := by decide +kernel
theorem dX13_mayBe_22 : decode cX13_mayBe 22 = .ok (.ireturn, 1) := by decide +kernel
theorem dX13_mayBe_23 : decode cX13_mayBe 23 = .ok (.aload_n 0, 1) := by decide +kernel
theorem dX13_mayBe_24 : decode cX13_mayBe 24 = .ok (.iload_n 2, 1) := by decide +kernel
theorem dX13_mayBe_25 : decode cX13_mayBe 25 = .ok (.invokevirtual 363, 3) := by decide +kernel
theorem dX13_mayBe_28 : decode cX13_mayBe 28 = .ok (.ifCond .eq 50, 3) := by decide +kernel
theorem dX13_mayBe_31 : decode cX13_mayBe 31 = .ok (.aload_n 0, 1) := by decide +kernel
theorem dX13_mayBe_32 : decode cX13_mayBe 32 = .ok (.iload_n 2, 1) := by decide +kernel
theorem dX13_mayBe_33 : decode cX13_mayBe 33 = .ok (.iconst 2, 1) := by decide +kernel
theorem dX13_mayBe_34 : decode cX13_mayBe 34 = .ok (.invokevirtual 351, 3) := by decide +kernel
theorem dX13_mayBe_37 : decode cX13_mayBe 37 = .ok (.aload_n 0, 1) := by decide +kernel
theorem dX13_mayBe_38 : decode cX13_mayBe 38 = .ok (.getfield 75, 3) := by decide +kernel
theorem dX13_mayBe_41 : decode cX13_mayBe 41 = .ok (.iload_n 1, 1) := by decide +kernel
theorem dX13_mayBe_42 : decode cX13_mayBe 42 = .ok (.iaload, 1) := by decide +kernel
theorem dX13_mayBe_43 : decode cX13_mayBe 43 = .ok (.iadd, 1) := by decide +kernel
theorem dX13_mayBe_44 : decode cX13_mayBe 44 = .ok (.aload_n 0, 1) := by decide +kernel
theorem dX13_mayBe_45 : decode cX13_mayBe 45 = .ok (.getfield 58, 3) := by decide +kernel
theorem dX13_mayBe_48 : decode cX13_mayBe 48 = .ok (.iload_n 2, 1) := by decide +kernel
theorem dX13_mayBe_49 : decode cX13_mayBe 49 = .ok (.iaload, 1) := by decide +kernel
theorem dX13_mayBe_50 : decode cX13_mayBe 50 = .ok (.if_icmp .gt 26, 3) := by decide +kernel
theorem dX13_mayBe_53 : decode cX13_mayBe 53 = .ok (.aload_n 0, 1) := by decide +kernel
theorem dX13_mayBe_54 : decode cX13_mayBe 54 = .ok (.getfield 66, 3) := by decide +kernel
theorem dX13_mayBe_57 : decode cX13_mayBe 57 = .ok (.iload_n 1, 1) := by decide +kernel
theorem dX13_mayBe_58 : decode cX13_mayBe 58 = .ok (.iaload, 1) := by decide +kernel
theorem dX13_mayBe_59 : decode cX13_mayBe 59 = .ok (.iconst 2, 1) := by decide +kernel
theorem dX13_mayBe_60 : decode cX13_mayBe 60 = .ok (.if_icmp .ne 12, 3) := by decide +kernel
theorem dX13_mayBe_63 : decode cX13_mayBe 63 = .ok (.aload_n 0, 1) := by decide +kernel
theorem dX13_mayBe_64 : decode cX13_mayBe 64 = .ok (.getfield 64, 3) := by decide +kernel
theorem dX13_mayBe_67 : decode cX13_mayBe 67 = .ok (.iload_n 2, 1) := by decide +kernel
theorem dX13_mayBe_68 : decode cX13_mayBe 68 = .ok (.iaload, 1) := by decide +kernel
theorem dX13_mayBe_69 : decode cX13_mayBe 69 = .ok (.ifCond .ne 7, 3) := by decide +kernel
theorem dX13_mayBe_72 : decode cX13_mayBe 72 = .ok (.iconst 1, 1) := by decide +kernel
theorem dX13_mayBe_73 : decode cX13_mayBe 73 = .ok (.goto 4, 3) := by decide +kernel
theorem dX13_mayBe_76 : decode cX13_mayBe 76 = .ok (.iconst 0, 1) := by decide +kernel
theorem dX13_mayBe_77 : decode cX13_mayBe 77 = .ok (.ireturn, 1) := by decide +kernel
theorem dX13_mayBe_78 : decode cX13_mayBe 78 = .ok (.aload_n 0, 1) := by decide +kernel
theorem dX13_mayBe_79 : decode cX13_mayBe 79 = .ok (.iload_n 2, 1) := by decide +kernel
theorem dX13_mayBe_80 : decode cX13_mayBe 80 = .ok (.bipush 10, 2) := by decide +kernel
theorem dX13_mayBe_82 : decode cX13_mayBe 82 = .ok (.isub, 1) := by decide +kernel
theorem dX13_mayBe_83 : decode cX13_mayBe 83 = .ok (.invokevirtual 366, 3) := by decide +kernel
theorem dX13_mayBe_86 : decode cX13_mayBe 86 = .ok (.ifCond .eq 85, 3) := by decide +kernel
theorem dX13_mayBe_89 : decode cX13_mayBe 89 = .ok (.aload_n 0, 1) := by decide +kernel
theorem dX13_mayBe_90 : decode cX13_mayBe 90 = .ok (.getfield 66, 3) := by decide +kernel
theorem dX13_mayBe_93 : decode cX13_mayBe 93 = .ok (.iload_n 1, 1) := by decide +kernel
theorem dX13_mayBe_94 : decode cX13_mayBe 94 = .ok (.iaload, 1) := by decide +kernel
theorem dX13_mayBe_95 : decode cX13_mayBe 95 = .ok (.iconst 1, 1) := by decide +kernel
theorem dX13_mayBe_96 : decode cX13_mayBe 96 = .ok (.if_icmp .ne 34, 3) := by decide +kernel
theorem dX13_mayBe_99 : decode cX13_mayBe 99 = .ok (.aload_n 0, 1) := by decide +kernel
theorem dX13_mayBe_100 : decode cX13_mayBe 100 = .ok (.iload_n 2, 1) := by decide +kernel
theorem dX13_mayBe_101 : decode cX13_mayBe 101 = .ok (.iconst 3, 1) := by decide +kernel
theorem dX13_mayBe_102 : decode cX13_mayBe 102 = .ok (.invokevirtual 351, 3) := by decide +kernel
theorem dX13_mayBe_105 : decode cX13_mayBe 105 = .ok (.aload_n 0, 1) := by decide +kernel
theorem dX13_mayBe_106 : decode cX13_mayBe 106 = .ok (.getfield 81, 3) := by decide +kernel
theorem dX13_mayBe_109 : decode cX13_mayBe 109 = .ok (.iload_n 1, 1) := by decide +kernel
theorem dX13_mayBe_110 : decode cX13_mayBe 110 = .ok (.iaload, 1) := by decide +kernel
theorem dX13_mayBe_111 : decode cX13_mayBe 111 = .ok (.iadd, 1) := by decide +kernel
theorem dX13_mayBe_112 : decode cX13_mayBe 112 = .ok (.aload_n 0, 1) := by decide +kernel
theorem dX13_mayBe_113 : decode cX13_mayBe 113 = .ok (.getfield 50, 3) := by decide +kernel
theorem dX13_mayBe_116 : decode cX13_mayBe 116 = .ok (.iload_n 2, 1) := by decide +kernel
theorem dX13_mayBe_117 : decode cX13_mayBe 117 = .ok (.bipush 10, 2) := by decide +kernel
theorem dX13_mayBe_119 : decode cX13_mayBe 119 = .ok (.isub, 1) := by decide +kernel
theorem dX13_mayBe_120 : decode cX13_mayBe 120 = .ok (.iaload, 1) := by decide +kernel
theorem dX13_mayBe_121 : decode cX13_mayBe 121 = .ok (.if_icmp .gt 7, 3) := by decide +kernel
theorem dX13_mayBe_124 : decode cX13_mayBe 124 = .ok (.iconst 1, 1) := by decide +kernel
theorem dX13_mayBe_125 : decode cX13_mayBe 125 = .ok (.goto 4, 3) := by decide +kernel
theorem dX13_mayBe_128 : decode cX13_mayBe 128 = .ok (.iconst 0, 1) := by decide +kernel
theorem dX13_mayBe_129 : decode cX13_mayBe 129 = .ok (.ireturn, 1) := by decide +kernel
theorem dX13_mayBe_130 : decode cX13_mayBe 130 = .ok (.aload_n 0, 1) := by decide +kernel
theorem dX13_mayBe_131 : decode cX13_mayBe 131 = .ok (.getfield 75, 3) := by decide +kernel
theorem dX13_mayBe_134 : decode cX13_mayBe 134 = .ok (.iload_n 1, 1) := by decide +kernel
theorem dX13_mayBe_135 : decode cX13_mayBe 135 = .ok (.iaload, 1) := by decide +kernel
theorem dX13_mayBe_136 : decode cX13_mayBe 136 = .ok (.iconst 2, 1) := by decide +kernel
theorem dX13_mayBe_137 : decode cX13_mayBe 137 = .ok (.if_icmp .gt 32, 3) := by decide +kernel
theorem dX13_mayBe_140 : decode cX13_mayBe 140 = .ok (.aload_n 0, 1) := by decide +kernel
theorem dX13_mayBe_141 : decode cX13_mayBe 141 = .ok (.iload_n 2, 1) := by decide +kernel
theorem dX13_mayBe_142 : decode cX13_mayBe 142 = .ok (.iconst 4, 1) := by decide +kernel
theorem dX13_mayBe_143 : decode cX13_mayBe 143 = .ok (.invokevirtual 351, 3) := by decide +kernel
theorem dX13_mayBe_146 : decode cX13_mayBe 146 = .ok (.aload_n 0, 1) := by decide +kernel
theorem dX13_mayBe_147 : decode cX13_mayBe 147 = .ok (.getfield 75, 3) := by decide +kernel
theorem dX13_mayBe_150 : decode cX13_mayBe 150 = .ok (.iload_n 1, 1) := by decide +kernel
theorem dX13_mayBe_151 : decode cX13_mayBe 151 = .ok (.iaload, 1) := by decide +kernel
theorem dX13_mayBe_152 : decode cX13_mayBe 152 = .ok (.iadd, 1) := by decide +kernel
theorem dX13_mayBe_153 : decode cX13_mayBe 153 = .ok (.aload_n 0, 1) := by decide +kernel
theorem dX13_mayBe_154 : decode cX13_mayBe 154 = .ok (.getfield 47, 3) := by decide +kernel
theorem dX13_mayBe_157 : decode cX13_mayBe 157 = .ok (.iload_n 2, 1) := by decide +kernel
theorem dX13_mayBe_158 : decode cX13_mayBe 158 = .ok (.bipush 10, 2) := by decide +kernel
theorem dX13_mayBe_160 : decode cX13_mayBe 160 = .ok (.isub, 1) := by decide +kernel
theorem dX13_mayBe_161 : decode cX13_mayBe 161 = .ok (.iaload, 1) := by decide +kernel
theorem dX13_mayBe_162 : decode cX13_mayBe 162 = .ok (.if_icmp .gt 7, 3) := by decide +kernel
theorem dX13_mayBe_165 : decode cX13_mayBe 165 = .ok (.iconst 1, 1) := by decide +kernel
theorem dX13_mayBe_166 : decode cX13_mayBe 166 = .ok (.goto 4, 3) := by decide +kernel
theorem dX13_mayBe_169 : decode cX13_mayBe 169 = .ok (.iconst 0, 1) := by decide +kernel
theorem dX13_mayBe_170 : decode cX13_mayBe 170 = .ok (.ireturn, 1) := by decide +kernel
theorem dX13_mayBe_171 : decode cX13_mayBe 171 = .ok (.iload_n 2, 1) := by decide +kernel
theorem dX13_mayBe_172 : decode cX13_mayBe 172 = .ok (.bipush 20, 2) := by decide +kernel
theorem dX13_mayBe_174 : decode cX13_mayBe 174 = .ok (.if_icmp .eq 34, 3) := by decide +kernel
theorem dX13_mayBe_177 : decode cX13_mayBe 177 = .ok (.iload_n 2, 1) := by decide +kernel
theorem dX13_mayBe_178 : decode cX13_mayBe 178 = .ok (.bipush 21, 2) := by decide +kernel
theorem dX13_mayBe_180 : decode cX13_mayBe 180 = .ok (.if_icmp .ne 12, 3) := by decide +kernel
theorem dX13_mayBe_183 : decode cX13_mayBe 183 = .ok (.aload_n 0, 1) := by decide +kernel
theorem dX13_mayBe_184 : decode cX13_mayBe 184 = .ok (.iload_n 1, 1) := by decide +kernel
theorem dX13_mayBe_185 : decode cX13_mayBe 185 = .ok (.invokevirtual 369, 3) := by decide +kernel
theorem dX13_mayBe_188 : decode cX13_mayBe 188 = .ok (.iconst (-1), 1) := by decide +kernel
theorem dX13_mayBe_189 : decode cX13_mayBe 189 = .ok (.if_icmp .ne 19, 3) := by decide +kernel
theorem dX13_mayBe_192 : decode cX13_mayBe 192 = .ok (.iload_n 2, 1) := by decide +kernel
theorem dX13_mayBe_193 : decode cX13_mayBe 193 = .ok (.bipush 22, 2) := by decide +kernel
theorem dX13_mayBe_195 : decode cX13_mayBe 195 = .ok (.if_icmp .ne 17, 3) := by decide +kernel
theorem dX13_mayBe_198 : decode cX13_mayBe 198 = .ok (.aload_n 0, 1) := by decide +kernel
theorem dX13_mayBe_199 : decode cX13_mayBe 199 = .ok (.getfield 66, 3) := by decide +kernel
theorem dX13_mayBe_202 : decode cX13_mayBe 202 = .ok (.iload_n 1, 1) := by decide +kernel
theorem dX13_mayBe_203 : decode cX13_mayBe 203 = .ok (.iaload, 1) := by decide +kernel
theorem dX13_mayBe_204 : decode cX13_mayBe 204 = .ok (.iconst 4, 1) := by decide +kernel
theorem dX13_mayBe_205 : decode cX13_mayBe 205 = .ok (.if_icmp .ne 7, 3) := by decide +kernel
theorem dX13_mayBe_208 : decode cX13_mayBe 208 = .ok (.iconst 1, 1) := by decide +kernel
theorem dX13_mayBe_209 : decode cX13_mayBe 209 = .ok (.goto 4, 3) := by decide +kernel
theorem dX13_mayBe_212 : decode cX13_mayBe 212 = .ok (.iconst 0, 1) := by decide +kernel
theorem dX13_mayBe_213 : decode cX13_mayBe 213 = .ok (.ireturn, 1) := by decide +kernel
set_option maxRecDepth 20000 in
theorem ggX13_billNow_X13_feeOf : GoodIn wsX13_billNow wsX13_feeOf := goodIn_r _ [10, 11, 12, 13, 9, 14, 1, 4, 15, 16, 17, 18, 19, 20, 21, 22, 23, 24, 25, 26, 27, 28, 29, 30, 31, 32, 33, 34, 35, 36, 37, 38, 39, 40, 41, 48, 49, 50, 51, 52, 53, 54, 55, 56, 57, 58, 59, 60, 61, 62, 63, 64, 65, 66, 67, 68, 69, 70, 71, 72, 73, 74, 75, 76, 77, 78, 79, 80, 81, 82, 83, 84, 85, 86, 87, 88, 89, 90, 91, 92, 93, 94, 95, 96, 97, 98, 99, 100, 101, 102, 103, 104, 105, 106, 107, 108, 109, 110, 111, 112, 113, 114] rfl (by decide +kernel)
set_option maxRecDepth 20000 in
theorem gX13_billNow_X13_feeOf : GoodIn wsX13_billNow (wsV RX13 372 RX13 yX13_feeOf wsX13_feeOf) := goodIn_app (goodIn_of _ (by decide +kernel)) ggX13_billNow_X13_feeOf
set_option maxRecDepth 20000 in
theorem ggX13_billNow_X13_priceOf : GoodIn wsX13_billNow wsX13_priceOf := goodIn_r _ [45, 1, 16, 46, 47, 48, 49, 50, 51, 52, 53, 54, 55, 56, 57, 58, 59, 60, 61, 62, 63, 64, 65, 66, 67, 68, 69, 70, 71, 72, 73, 74, 75, 76, 77, 78, 79, 80, 81, 82, 83, 84, 85, 86, 87, 88, 89, 90, 91, 92, 93, 94, 95, 96, 97, 98, 99, 100, 101, 102, 103, 104, 105, 106, 107, 108, 109, 110, 111, 112, 113, 114] rfl (by decide +kernel)
set_option maxRecDepth 20000 in
theorem gX13_billNow_X13_priceOf : GoodIn wsX13_billNow (wsV RX13 369 RX13 yX13_priceOf wsX13_priceOf) := goodIn_app (goodIn_of _ (by decide +kernel)) ggX13_billNow_X13_priceOf
theorem dX13_billNow_0 : decode cX13_billNow 0 = .ok (.iconst 0, 1) := by decide +kernel
theorem dX13_billNow_1 : decode cX13_billNow 1 = .ok (.istore_n 1, 1) := by decide +kernel
theorem dX13_billNow_2 : decode cX13_billNow 2 = .ok (.iconst 0, 1) := by decide +kernel
theorem dX13_billNow_3 : decode cX13_billNow 3 = .ok (.istore_n 2, 1) := by decide +kernel
theorem dX13_billNow_4 : decode cX13_billNow 4 = .ok (.iload_n 2, 1) := by decide +kernel
theorem dX13_billNow_5 : decode cX13_billNow 5 = .ok (.aload_n 0, 1) := by decide +kernel
theorem dX13_billNow_6 : decode cX13_billNow 6 = .ok (.getfield 40, 3) := by decide +kernel
theorem dX13_billNow_9 : decode cX13_billNow 9 = .ok (.iconst 1, 1) := by decide +kernel
theorem dX13_billNow_10 : decode cX13_billNow 10 = .ok (.iaload, 1) := by decide +kernel
theorem dX13_billNow_11 : decode cX13_billNow 11 = .ok (.if_icmp .ge 40, 3) := by decide +kernel
theorem dX13_billNow_14 : decode cX13_billNow 14 = .ok (.iload_n 1, 1) := by decide +kernel
theorem dX13_billNow_15 : decode cX13_billNow 15 = .ok (.aload_n 0, 1) := by decide +kernel
theorem dX13_billNow_16 : decode cX13_billNow 16 = .ok (.iload_n 2, 1) := by decide +kernel
theorem dX13_billNow_17 : decode cX13_billNow 17 = .ok (.invokevirtual 372, 3) := by decide +kernel
theorem dX13_billNow_20 : decode cX13_billNow 20 = .ok (.aload_n 0, 1) := by decide +kernel
theorem dX13_billNow_21 : decode cX13_billNow 21 = .ok (.getfield 331, 3) := by decide +kernel
theorem dX13_billNow_24 : decode cX13_billNow 24 = .ok (.iload_n 2, 1) := by decide +kernel
theorem dX13_billNow_25 : decode cX13_billNow 25 = .ok (.ishr, 1) := by decide +kernel
theorem dX13_billNow_26 : decode cX13_billNow 26 = .ok (.iconst 1, 1) := by decide +kernel
theorem dX13_billNow_27 : decode cX13_billNow 27 = .ok (.iand, 1) := by decide +kernel
theorem dX13_billNow_28 : decode cX13_billNow 28 = .ok (.iconst 1, 1) := by decide +kernel
theorem dX13_billNow_29 : decode cX13_billNow 29 = .ok (.if_icmp .ne 12, 3) := by decide +kernel
theorem dX13_billNow_32 : decode cX13_billNow 32 = .ok (.aload_n 0, 1) := by decide +kernel
theorem dX13_billNow_33 : decode cX13_billNow 33 = .ok (.getfield 61, 3) := by decide +kernel
theorem dX13_billNow_36 : decode cX13_billNow 36 = .ok (.iload_n 2, 1) := by decide +kernel
theorem dX13_billNow_37 : decode cX13_billNow 37 = .ok (.iaload, 1) := by decide +kernel
theorem dX13_billNow_38 : decode cX13_billNow 38 = .ok (.goto 4, 3) := by decide +kernel
theorem dX13_billNow_41 : decode cX13_billNow 41 = .ok (.iconst 0, 1) := by decide +kernel
theorem dX13_billNow_42 : decode cX13_billNow 42 = .ok (.iadd, 1) := by decide +kernel
theorem dX13_billNow_43 : decode cX13_billNow 43 = .ok (.iadd, 1) := by decide +kernel
theorem dX13_billNow_44 : decode cX13_billNow 44 = .ok (.istore_n 1, 1) := by decide +kernel
theorem dX13_billNow_45 : decode cX13_billNow 45 = .ok (.iinc 2 1, 3) := by decide +kernel
theorem dX13_billNow_48 : decode cX13_billNow 48 = .ok (.goto (-44), 3) := by decide +kernel
theorem dX13_billNow_51 : decode cX13_billNow 51 = .ok (.iconst 0, 1) := by decide +kernel
theorem dX13_billNow_52 : decode cX13_billNow 52 = .ok (.istore_n 2, 1) := by decide +kernel
theorem dX13_billNow_53 : decode cX13_billNow 53 = .ok (.iload_n 2, 1) := by decide +kernel
theorem dX13_billNow_54 : decode cX13_billNow 54 = .ok (.aload_n 0, 1) := by decide +kernel
theorem dX13_billNow_55 : decode cX13_billNow 55 = .ok (.getfield 40, 3) := by decide +kernel
theorem dX13_billNow_58 : decode cX13_billNow 58 = .ok (.iconst 2, 1) := by decide +kernel
theorem dX13_billNow_59 : decode cX13_billNow 59 = .ok (.iaload, 1) := by decide +kernel
theorem dX13_billNow_60 : decode cX13_billNow 60 = .ok (.if_icmp .ge 52, 3) := by decide +kernel
theorem dX13_billNow_63 : decode cX13_billNow 63 = .ok (.iload_n 1, 1) := by decide +kernel
theorem dX13_billNow_64 : decode cX13_billNow 64 = .ok (.aload_n 0, 1) := by decide +kernel
theorem dX13_billNow_65 : decode cX13_billNow 65 = .ok (.getfield 84, 3) := by decide +kernel
theorem dX13_billNow_68 : decode cX13_billNow 68 = .ok (.iload_n 2, 1) := by decide +kernel
theorem dX13_billNow_69 : decode cX13_billNow 69 = .ok (.iaload, 1) := by decide +kernel
theorem dX13_billNow_70 : decode cX13_billNow 70 = .ok (.bipush 20, 2) := by decide +kernel
theorem dX13_billNow_72 : decode cX13_billNow 72 = .ok (.if_icmp .ne 12, 3) := by decide +kernel
theorem dX13_billNow_75 : decode cX13_billNow 75 = .ok (.aload_n 0, 1) := by decide +kernel
theorem dX13_billNow_76 : decode cX13_billNow 76 = .ok (.getfield 78, 3) := by decide +kernel
theorem dX13_billNow_79 : decode cX13_billNow 79 = .ok (.iload_n 2, 1) := by decide +kernel
theorem dX13_billNow_80 : decode cX13_billNow 80 = .ok (.iaload, 1) := by decide +kernel
theorem dX13_billNow_81 : decode cX13_billNow 81 = .ok (.goto 23, 3) := by decide +kernel
theorem dX13_billNow_84 : decode cX13_billNow 84 = .ok (.aload_n 0, 1) := by decide +kernel
theorem dX13_billNow_85 : decode cX13_billNow 85 = .ok (.getfield 84, 3) := by decide +kernel
theorem dX13_billNow_88 : decode cX13_billNow 88 = .ok (.iload_n 2, 1) := by decide +kernel
theorem dX13_billNow_89 : decode cX13_billNow 89 = .ok (.iaload, 1) := by decide +kernel
theorem dX13_billNow_90 : decode cX13_billNow 90 = .ok (.bipush 21, 2) := by decide +kernel
theorem dX13_billNow_92 : decode cX13_billNow 92 = .ok (.if_icmp .ne 11, 3) := by decide +kernel
theorem dX13_billNow_95 : decode cX13_billNow 95 = .ok (.aload_n 0, 1) := by decide +kernel
theorem dX13_billNow_96 : decode cX13_billNow 96 = .ok (.iload_n 2, 1) := by decide +kernel
theorem dX13_billNow_97 : decode cX13_billNow 97 = .ok (.invokevirtual 369, 3) := by decide +kernel
theorem dX13_billNow_100 : decode cX13_billNow 100 = .ok (.goto 4, 3) := by decide +kernel
theorem dX13_billNow_103 : decode cX13_billNow 103 = .ok (.iconst 0, 1) := by decide +kernel
theorem dX13_billNow_104 : decode cX13_billNow 104 = .ok (.iadd, 1) := by decide +kernel
theorem dX13_billNow_105 : decode cX13_billNow 105 = .ok (.istore_n 1, 1) := by decide +kernel
theorem dX13_billNow_106 : decode cX13_billNow 106 = .ok (.iinc 2 1, 3) := by decide +kernel
theorem dX13_billNow_109 : decode cX13_billNow 109 = .ok (.goto (-56), 3) := by decide +kernel
theorem dX13_billNow_112 : decode cX13_billNow 112 = .ok (.iload_n 1, 1) := by decide +kernel
theorem dX13_billNow_113 : decode cX13_billNow 113 = .ok (.ireturn, 1) := by decide +kernel
set_option maxRecDepth 20000 in
theorem ggX13_allGo_X13_overOf : GoodIn wsX13_allGo wsX13_overOf := goodIn_r _ [6, 7, 8, 9, 10, 11, 12, 13, 14, 5, 15, 1, 16, 17, 18, 19, 20, 21, 22, 23, 24, 25, 26, 27, 28, 29, 30, 31, 32, 33, 34, 35, 36, 37, 38, 39, 40, 41, 42, 43, 44, 45, 46, 47, 48, 49, 50, 51, 52, 53, 54, 55, 56, 57, 58, 59, 60, 61, 62, 63, 64, 65, 66, 67, 68, 69, 70, 71, 72, 73, 74, 75, 76, 77, 78, 79, 80, 81, 82, 83, 84, 85, 86, 87] rfl (by decide +kernel)
set_option maxRecDepth 20000 in
theorem gX13_allGo_X13_overOf : GoodIn wsX13_allGo (wsV RX13 375 RX13 yX13_overOf wsX13_overOf) := goodIn_app (goodIn_of _ (by decide +kernel)) ggX13_allGo_X13_overOf
theorem dX13_allGo_0 : decode cX13_allGo 0 = .ok (.iconst 0, 1) := by decide +kernel
theorem dX13_allGo_1 : decode cX13_allGo 1 = .ok (.istore_n 1, 1) := by decide +kernel
theorem dX13_allGo_2 : decode cX13_allGo 2 = .ok (.iload_n 1, 1) := by decide +kernel
theorem dX13_allGo_3 : decode cX13_allGo 3 = .ok (.aload_n 0, 1) := by decide +kernel
theorem dX13_allGo_4 : decode cX13_allGo 4 = .ok (.getfield 40, 3) := by decide +kernel
theorem dX13_allGo_7 : decode cX13_allGo 7 = .ok (.iconst 1, 1) := by decide +kernel
theorem dX13_allGo_8 : decode cX13_allGo 8 = .ok (.iaload, 1) := by decide +kernel
theorem dX13_allGo_9 : decode cX13_allGo 9 = .ok (.if_icmp .ge 19, 3) := by decide +kernel
theorem dX13_allGo_12 : decode cX13_allGo 12 = .ok (.aload_n 0, 1) := by decide +kernel
theorem dX13_allGo_13 : decode cX13_allGo 13 = .ok (.iload_n 1, 1) := by decide +kernel
theorem dX13_allGo_14 : decode cX13_allGo 14 = .ok (.invokevirtual 375, 3) := by decide +kernel
theorem dX13_allGo_17 : decode cX13_allGo 17 = .ok (.ifCond .le 5, 3) := by decide +kernel
theorem dX13_allGo_20 : decode cX13_allGo 20 = .ok (.iconst 0, 1) := by decide +kernel
theorem dX13_allGo_21 : decode cX13_allGo 21 = .ok (.ireturn, 1) := by decide +kernel
theorem dX13_allGo_22 : decode cX13_allGo 22 = .ok (.iinc 1 1, 3) := by decide +kernel
theorem dX13_allGo_25 : decode cX13_allGo 25 = .ok (.goto (-23), 3) := by decide +kernel
theorem dX13_allGo_28 : decode cX13_allGo 28 = .ok (.iconst 1, 1) := by decide +kernel
theorem dX13_allGo_29 : decode cX13_allGo 29 = .ok (.ireturn, 1) := by decide +kernel
set_option maxRecDepth 20000 in
theorem ggX13_hasShirt_X13_isCase : GoodIn wsX13_hasShirt wsX13_isCase := goodIn_r _ [9, 1, 10, 11, 8, 12, 13, 14, 15, 16, 17, 18, 19, 20, 21, 22, 23, 24, 25, 26, 27, 28, 29, 30, 31, 32, 33, 34, 35, 36, 37, 38, 39, 40, 41, 42, 43, 44, 45, 46, 47, 48, 49, 50, 51, 52, 53, 54, 55, 56, 57, 58, 59, 60, 61, 62, 63, 64, 65, 66, 67, 68, 69, 70, 71, 72, 73, 74, 75, 76, 77, 78, 79] rfl (by decide +kernel)
set_option maxRecDepth 20000 in
theorem gX13_hasShirt_X13_isCase : GoodIn wsX13_hasShirt (wsV RX13 363 RX13 yX13_isCase wsX13_isCase) := goodIn_app (goodIn_of _ (by decide +kernel)) ggX13_hasShirt_X13_isCase
theorem dX13_hasShirt_0 : decode cX13_hasShirt 0 = .ok (.iconst 0, 1) := by decide +kernel
theorem dX13_hasShirt_1 : decode cX13_hasShirt 1 = .ok (.istore_n 3, 1) := by decide +kernel
theorem dX13_hasShirt_2 : decode cX13_hasShirt 2 = .ok (.iload_n 3, 1) := by decide +kernel
theorem dX13_hasShirt_3 : decode cX13_hasShirt 3 = .ok (.aload_n 0, 1) := by decide +kernel
theorem dX13_hasShirt_4 : decode cX13_hasShirt 4 = .ok (.getfield 40, 3) := by decide +kernel
theorem dX13_hasShirt_7 : decode cX13_hasShirt 7 = .ok (.iconst 2, 1) := by decide +kernel
theorem dX13_hasShirt_8 : decode cX13_hasShirt 8 = .ok (.iaload, 1) := by decide +kernel
theorem dX13_hasShirt_9 : decode cX13_hasShirt 9 = .ok (.if_icmp .ge 75, 3) := by decide +kernel
theorem dX13_hasShirt_12 : decode cX13_hasShirt 12 = .ok (.aload_n 0, 1) := by decide +kernel
theorem dX13_hasShirt_13 : decode cX13_hasShirt 13 = .ok (.getfield 66, 3) := by decide +kernel
theorem dX13_hasShirt_16 : decode cX13_hasShirt 16 = .ok (.iload_n 3, 1) := by decide +kernel
theorem dX13_hasShirt_17 : decode cX13_hasShirt 17 = .ok (.iaload, 1) := by decide +kernel
theorem dX13_hasShirt_18 : decode cX13_hasShirt 18 = .ok (.iconst 5, 1) := by decide +kernel
theorem dX13_hasShirt_19 : decode cX13_hasShirt 19 = .ok (.if_icmp .eq 6, 3) := by decide +kernel
theorem dX13_hasShirt_22 : decode cX13_hasShirt 22 = .ok (.goto 56, 3) := by decide +kernel
theorem dX13_hasShirt_25 : decode cX13_hasShirt 25 = .ok (.aload_n 0, 1) := by decide +kernel
theorem dX13_hasShirt_26 : decode cX13_hasShirt 26 = .ok (.getfield 84, 3) := by decide +kernel
theorem dX13_hasShirt_29 : decode cX13_hasShirt 29 = .ok (.iload_n 3, 1) := by decide +kernel
theorem dX13_hasShirt_30 : decode cX13_hasShirt 30 = .ok (.iaload, 1) := by decide +kernel
theorem dX13_hasShirt_31 : decode cX13_hasShirt 31 = .ok (.bipush 10, 2) := by decide +kernel
theorem dX13_hasShirt_33 : decode cX13_hasShirt 33 = .ok (.iload_n 1, 1) := by decide +kernel
theorem dX13_hasShirt_34 : decode cX13_hasShirt 34 = .ok (.iadd, 1) := by decide +kernel
theorem dX13_hasShirt_35 : decode cX13_hasShirt 35 = .ok (.if_icmp .eq 41, 3) := by decide +kernel
theorem dX13_hasShirt_38 : decode cX13_hasShirt 38 = .ok (.aload_n 0, 1) := by decide +kernel
theorem dX13_hasShirt_39 : decode cX13_hasShirt 39 = .ok (.aload_n 0, 1) := by decide +kernel
theorem dX13_hasShirt_40 : decode cX13_hasShirt 40 = .ok (.getfield 84, 3) := by decide +kernel
theorem dX13_hasShirt_43 : decode cX13_hasShirt 43 = .ok (.iload_n 3, 1) := by decide +kernel
theorem dX13_hasShirt_44 : decode cX13_hasShirt 44 = .ok (.iaload, 1) := by decide +kernel
theorem dX13_hasShirt_45 : decode cX13_hasShirt 45 = .ok (.invokevirtual 363, 3) := by decide +kernel
theorem dX13_hasShirt_48 : decode cX13_hasShirt 48 = .ok (.ifCond .eq 30, 3) := by decide +kernel
theorem dX13_hasShirt_51 : decode cX13_hasShirt 51 = .ok (.aload_n 0, 1) := by decide +kernel
theorem dX13_hasShirt_52 : decode cX13_hasShirt 52 = .ok (.getfield 84, 3) := by decide +kernel
theorem dX13_hasShirt_55 : decode cX13_hasShirt 55 = .ok (.iload_n 3, 1) := by decide +kernel
theorem dX13_hasShirt_56 : decode cX13_hasShirt 56 = .ok (.iaload, 1) := by decide +kernel
theorem dX13_hasShirt_57 : decode cX13_hasShirt 57 = .ok (.iload_n 2, 1) := by decide +kernel
theorem dX13_hasShirt_58 : decode cX13_hasShirt 58 = .ok (.if_icmp .eq 20, 3) := by decide +kernel
theorem dX13_hasShirt_61 : decode cX13_hasShirt 61 = .ok (.aload_n 0, 1) := by decide +kernel
theorem dX13_hasShirt_62 : decode cX13_hasShirt 62 = .ok (.getfield 53, 3) := by decide +kernel
theorem dX13_hasShirt_65 : decode cX13_hasShirt 65 = .ok (.aload_n 0, 1) := by decide +kernel
theorem dX13_hasShirt_66 : decode cX13_hasShirt 66 = .ok (.getfield 84, 3) := by decide +kernel
theorem dX13_hasShirt_69 : decode cX13_hasShirt 69 = .ok (.iload_n 3, 1) := by decide +kernel
theorem dX13_hasShirt_70 : decode cX13_hasShirt 70 = .ok (.iaload, 1) := by decide +kernel
theorem dX13_hasShirt_71 : decode cX13_hasShirt 71 = .ok (.iaload, 1) := by decide +kernel
theorem dX13_hasShirt_72 : decode cX13_hasShirt 72 = .ok (.iload_n 1, 1) := by decide +kernel
theorem dX13_hasShirt_73 : decode cX13_hasShirt 73 = .ok (.if_icmp .ne 5, 3) := by decide +kernel
theorem dX13_hasShirt_76 : decode cX13_hasShirt 76 = .ok (.iconst 1, 1) := by decide +kernel
theorem dX13_hasShirt_77 : decode cX13_hasShirt 77 = .ok (.ireturn, 1) := by decide +kernel
theorem dX13_hasShirt_78 : decode cX13_hasShirt 78 = .ok (.iinc 3 1, 3) := by decide +kernel
theorem dX13_hasShirt_81 : decode cX13_hasShirt 81 = .ok (.goto (-79), 3) := by decide +kernel
theorem dX13_hasShirt_84 : decode cX13_hasShirt 84 = .ok (.iconst 0, 1) := by decide +kernel
theorem dX13_hasShirt_85 : decode cX13_hasShirt 85 = .ok (.ireturn, 1) := by decide +kernel
set_option maxRecDepth 20000 in
theorem ggX13_count_X13_isIn : GoodIn wsX13_count wsX13_isIn := goodIn_r _ [12] rfl (by decide +kernel)
set_option maxRecDepth 20000 in
theorem gX13_count_X13_isIn : GoodIn wsX13_count (va_wsS RX13 176 yX13_isIn wsX13_isIn) := goodIn_app (goodIn_of _ (by decide +kernel)) ggX13_count_X13_isIn
set_option maxRecDepth 20000 in
theorem ggX13_count_X13_fail : GoodIn wsX13_count wsX13_fail := goodIn_r _ [16, 1, 17, 18, 19, 20, 21, 22, 23, 24, 25, 26, 27, 28, 29, 30, 31, 32, 33, 34, 35, 36, 37, 38, 39, 40, 41, 42, 43, 44, 45, 46, 47, 48, 49, 50, 51, 52, 53, 54, 55, 56, 57, 58, 59, 60, 61, 62, 63, 64, 65, 66, 67, 68, 69, 70, 71, 72, 73, 74, 75, 76, 77, 78, 79, 80, 81, 82, 83] rfl (by decide +kernel)
set_option maxRecDepth 20000 in
theorem gX13_count_X13_fail : GoodIn wsX13_count (wsV RX13 318 RX13 yX13_fail wsX13_fail) := goodIn_app (goodIn_of _ (by decide +kernel)) ggX13_count_X13_fail
theorem dX13_count_0 : decode cX13_count 0 = .ok (.aload_n 0, 1) := by decide +kernel
theorem dX13_count_1 : decode cX13_count 1 = .ok (.iconst 0, 1) := by decide +kernel
theorem dX13_count_2 : decode cX13_count 2 = .ok (.putfield 173, 3) := by decide +kernel
theorem dX13_count_5 : decode cX13_count 5 = .ok (.iload_n 1, 1) := by decide +kernel
theorem dX13_count_6 : decode cX13_count 6 = .ok (.i2l, 1) := by decide +kernel
theorem dX13_count_7 : decode cX13_count 7 = .ok (.lconst 0, 1) := by decide +kernel
theorem dX13_count_8 : decode cX13_count 8 = .ok (.ldc2_w 378, 3) := by decide +kernel
theorem dX13_count_11 : decode cX13_count 11 = .ok (.invokestatic 176, 3) := by decide +kernel
theorem dX13_count_14 : decode cX13_count 14 = .ok (.ifCond .eq 10, 3) := by decide +kernel
theorem dX13_count_17 : decode cX13_count 17 = .ok (.aload_n 0, 1) := by decide +kernel
theorem dX13_count_18 : decode cX13_count 18 = .ok (.getfield 40, 3) := by decide +kernel
theorem dX13_count_21 : decode cX13_count 21 = .ok (.iload_n 1, 1) := by decide +kernel
theorem dX13_count_22 : decode cX13_count 22 = .ok (.iaload, 1) := by decide +kernel
theorem dX13_count_23 : decode cX13_count 23 = .ok (.ireturn, 1) := by decide +kernel
theorem dX13_count_24 : decode cX13_count 24 = .ok (.iload_n 1, 1) := by decide +kernel
theorem dX13_count_25 : decode cX13_count 25 = .ok (.tableswitch 73 6 12 #[43, 48, 53, 58, 63, 63, 63], 43) := by decide +kernel
theorem dX13_count_68 : decode cX13_count 68 = .ok (.aload_n 0, 1) := by decide +kernel
theorem dX13_count_69 : decode cX13_count 69 = .ok (.getfield 331, 3) := by decide +kernel
theorem dX13_count_72 : decode cX13_count 72 = .ok (.ireturn, 1) := by decide +kernel
theorem dX13_count_73 : decode cX13_count 73 = .ok (.aload_n 0, 1) := by decide +kernel
theorem dX13_count_74 : decode cX13_count 74 = .ok (.getfield 334, 3) := by decide +kernel
theorem dX13_count_77 : decode cX13_count 77 = .ok (.ireturn, 1) := by decide +kernel
theorem dX13_count_78 : decode cX13_count 78 = .ok (.aload_n 0, 1) := by decide +kernel
theorem dX13_count_79 : decode cX13_count 79 = .ok (.getfield 337, 3) := by decide +kernel
theorem dX13_count_82 : decode cX13_count 82 = .ok (.ireturn, 1) := by decide +kernel
theorem dX13_count_83 : decode cX13_count 83 = .ok (.aload_n 0, 1) := by decide +kernel
theorem dX13_count_84 : decode cX13_count 84 = .ok (.getfield 180, 3) := by decide +kernel
theorem dX13_count_87 : decode cX13_count 87 = .ok (.ireturn, 1) := by decide +kernel
theorem dX13_count_88 : decode cX13_count 88 = .ok (.aload_n 0, 1) := by decide +kernel
theorem dX13_count_89 : decode cX13_count 89 = .ok (.getfield 96, 3) := by decide +kernel
theorem dX13_count_92 : decode cX13_count 92 = .ok (.iload_n 1, 1) := by decide +kernel
theorem dX13_count_93 : decode cX13_count 93 = .ok (.bipush 10, 2) := by decide +kernel
theorem dX13_count_95 : decode cX13_count 95 = .ok (.isub, 1) := by decide +kernel
theorem dX13_count_96 : decode cX13_count 96 = .ok (.iaload, 1) := by decide +kernel
theorem dX13_count_97 : decode cX13_count 97 = .ok (.ireturn, 1) := by decide +kernel
theorem dX13_count_98 : decode cX13_count 98 = .ok (.aload_n 0, 1) := by decide +kernel
theorem dX13_count_99 : decode cX13_count 99 = .ok (.iconst 1, 1) := by decide +kernel
theorem dX13_count_100 : decode cX13_count 100 = .ok (.invokevirtual 318, 3) := by decide +kernel
theorem dX13_count_103 : decode cX13_count 103 = .ok (.ireturn, 1) := by decide +kernel
set_option maxRecDepth 20000 in
theorem ggX13_person_X13_isPerson : GoodIn wsX13_person wsX13_isPerson := goodIn_r _ [9, 10, 11, 12, 8, 13, 36, 37, 38, 39, 40, 41, 42, 43, 44, 45, 46, 47, 48, 49, 50, 51, 52, 53, 54, 55, 56, 57, 58, 59, 60, 61, 62, 63, 64, 65, 66, 67, 68, 69, 70, 71, 72, 73, 74, 75, 76, 77, 78, 79, 80, 81, 82, 83, 84, 85, 86, 87, 88, 89, 90, 91, 92, 93, 94, 95, 96, 97, 98, 99, 100, 101, 102] rfl (by decide +kernel)
set_option maxRecDepth 20000 in
theorem gX13_person_X13_isPerson : GoodIn wsX13_person (wsV RX13 366 RX13 yX13_isPerson wsX13_isPerson) := goodIn_app (goodIn_of _ (by decide +kernel)) ggX13_person_X13_isPerson
set_option maxRecDepth 20000 in
theorem ggX13_person_X13_fail : GoodIn wsX13_person wsX13_fail := goodIn_r _ [17, 1, 36, 37, 38, 39, 40, 41, 42, 43, 44, 45, 46, 47, 48, 49, 50, 51, 52, 53, 54, 55, 56, 57, 58, 59, 60, 61, 62, 63, 64, 65, 66, 67, 68, 69, 70, 71, 72, 73, 74, 75, 76, 77, 78, 79, 80, 81, 82, 83, 84, 85, 86, 87, 88, 89, 90, 91, 92, 93, 94, 95, 96, 97, 98, 99, 100, 101, 102] rfl (by decide +kernel)
set_option maxRecDepth 20000 in
theorem gX13_person_X13_fail : GoodIn wsX13_person (wsV RX13 318 RX13 yX13_fail wsX13_fail) := goodIn_app (goodIn_of _ (by decide +kernel)) ggX13_person_X13_fail
set_option maxRecDepth 20000 in
theorem ggX13_person_X13_sumAt : GoodIn wsX13_person wsX13_sumAt := goodIn_r _ [21, 10, 22, 23, 24, 25, 26, 36, 37, 38, 39, 40, 41, 42, 43, 44, 45, 46, 47, 48, 49, 50, 51, 52, 53, 54, 55, 56, 57, 58, 59, 60, 61, 62, 63, 64, 65, 66, 67, 68, 69, 70, 71, 72, 73, 74, 75, 76, 77, 78, 79, 80, 81, 82, 83, 84, 85, 86, 87, 88, 89, 90, 91, 92, 93, 94, 95, 96, 97, 98, 99, 100, 101, 102] rfl (by decide +kernel)
set_option maxRecDepth 20000 in
theorem gX13_person_X13_sumAt : GoodIn wsX13_person (wsV RX13 351 RX13 yX13_sumAt wsX13_sumAt) := goodIn_app (goodIn_of _ (by decide +kernel)) ggX13_person_X13_sumAt
set_option maxRecDepth 20000 in
theorem ggX13_person_X13_hasShirt : GoodIn wsX13_person wsX13_hasShirt := goodIn_r _ [30, 10, 23, 22, 31, 32, 33, 34, 8, 35, 11, 12, 13, 36, 37, 38, 39, 40, 41, 42, 43, 44, 45, 46, 47, 48, 49, 50, 51, 52, 53, 54, 55, 56, 57, 58, 59, 60, 61, 62, 63, 64, 65, 66, 67, 68, 69, 70, 71, 72, 73, 74, 75, 76, 77, 78, 79, 80, 81, 82, 83, 84, 85, 86, 87, 88, 89, 90, 91, 92, 93, 94, 95, 96, 97, 98, 99, 100, 101, 102] rfl (by decide +kernel)
set_option maxRecDepth 20000 in
theorem gX13_person_X13_hasShirt : GoodIn wsX13_person (wsV RX13 380 RX13 yX13_hasShirt wsX13_hasShirt) := goodIn_app (goodIn_of _ (by decide +kernel)) ggX13_person_X13_hasShirt
theorem dX13_person_0 : decode cX13_person 0 = .ok (.aload_n 0, 1) := by decide +kernel
theorem dX13_person_1 : decode cX13_person 1 = .ok (.iconst 0, 1) := by decide +kernel
theorem dX13_person_2 : decode cX13_person 2 = .ok (.putfield 173, 3) := by decide +kernel
theorem dX13_person_5 : decode cX13_person 5 = .ok (.aload_n 0, 1) := by decide +kernel
theorem dX13_person_6 : decode cX13_person 6 = .ok (.iload_n 1, 1) := by decide +kernel
theorem dX13_person_7 : decode cX13_person 7 = .ok (.invokevirtual 366, 3) := by decide +kernel
theorem dX13_person_10 : decode cX13_person 10 = .ok (.ifCond .ne 9, 3) := by decide +kernel
theorem dX13_person_13 : decode cX13_person 13 = .ok (.aload_n 0, 1) := by decide +kernel
theorem dX13_person_14 : decode cX13_person 14 = .ok (.iconst 1, 1) := by decide +kernel
theorem dX13_person_15 : decode cX13_person 15 = .ok (.invokevirtual 318, 3) := by decide +kernel
theorem dX13_person_18 : decode cX13_person 18 = .ok (.ireturn, 1) := by decide +kernel
theorem dX13_person_19 : decode cX13_person 19 = .ok (.iload_n 2, 1) := by decide +kernel
theorem dX13_person_20 : decode cX13_person 20 = .ok (.tableswitch 96 0 5 #[40, 47, 54, 61, 71, 81], 40) := by decide +kernel
theorem dX13_person_60 : decode cX13_person 60 = .ok (.aload_n 0, 1) := by decide +kernel
theorem dX13_person_61 : decode cX13_person 61 = .ok (.getfield 44, 3) := by decide +kernel
theorem dX13_person_64 : decode cX13_person 64 = .ok (.iload_n 1, 1) := by decide +kernel
theorem dX13_person_65 : decode cX13_person 65 = .ok (.iaload, 1) := by decide +kernel
theorem dX13_person_66 : decode cX13_person 66 = .ok (.ireturn, 1) := by decide +kernel
theorem dX13_person_67 : decode cX13_person 67 = .ok (.aload_n 0, 1) := by decide +kernel
theorem dX13_person_68 : decode cX13_person 68 = .ok (.getfield 47, 3) := by decide +kernel
theorem dX13_person_71 : decode cX13_person 71 = .ok (.iload_n 1, 1) := by decide +kernel
theorem dX13_person_72 : decode cX13_person 72 = .ok (.iaload, 1) := by decide +kernel
theorem dX13_person_73 : decode cX13_person 73 = .ok (.ireturn, 1) := by decide +kernel
theorem dX13_person_74 : decode cX13_person 74 = .ok (.aload_n 0, 1) := by decide +kernel
theorem dX13_person_75 : decode cX13_person 75 = .ok (.getfield 50, 3) := by decide +kernel
theorem dX13_person_78 : decode cX13_person 78 = .ok (.iload_n 1, 1) := by decide +kernel
theorem dX13_person_79 : decode cX13_person 79 = .ok (.iaload, 1) := by decide +kernel
theorem dX13_person_80 : decode cX13_person 80 = .ok (.ireturn, 1) := by decide +kernel
theorem dX13_person_81 : decode cX13_person 81 = .ok (.aload_n 0, 1) := by decide +kernel
theorem dX13_person_82 : decode cX13_person 82 = .ok (.bipush 10, 2) := by decide +kernel
theorem dX13_person_84 : decode cX13_person 84 = .ok (.iload_n 1, 1) := by decide +kernel
theorem dX13_person_85 : decode cX13_person 85 = .ok (.iadd, 1) := by decide +kernel
theorem dX13_person_86 : decode cX13_person 86 = .ok (.iconst 3, 1) := by decide +kernel
theorem dX13_person_87 : decode cX13_person 87 = .ok (.invokevirtual 351, 3) := by decide +kernel
theorem dX13_person_90 : decode cX13_person 90 = .ok (.ireturn, 1) := by decide +kernel
theorem dX13_person_91 : decode cX13_person 91 = .ok (.aload_n 0, 1) := by decide +kernel
theorem dX13_person_92 : decode cX13_person 92 = .ok (.bipush 10, 2) := by decide +kernel
theorem dX13_person_94 : decode cX13_person 94 = .ok (.iload_n 1, 1) := by decide +kernel
theorem dX13_person_95 : decode cX13_person 95 = .ok (.iadd, 1) := by decide +kernel
theorem dX13_person_96 : decode cX13_person 96 = .ok (.iconst 4, 1) := by decide +kernel
theorem dX13_person_97 : decode cX13_person 97 = .ok (.invokevirtual 351, 3) := by decide +kernel
theorem dX13_person_100 : decode cX13_person 100 = .ok (.ireturn, 1) := by decide +kernel
theorem dX13_person_101 : decode cX13_person 101 = .ok (.aload_n 0, 1) := by decide +kernel
theorem dX13_person_102 : decode cX13_person 102 = .ok (.iload_n 1, 1) := by decide +kernel
theorem dX13_person_103 : decode cX13_person 103 = .ok (.iconst (-1), 1) := by decide +kernel
theorem dX13_person_104 : decode cX13_person 104 = .ok (.invokevirtual 380, 3) := by decide +kernel
theorem dX13_person_107 : decode cX13_person 107 = .ok (.ifCond .eq 7, 3) := by decide +kernel
theorem dX13_person_110 : decode cX13_person 110 = .ok (.iconst 1, 1) := by decide +kernel
theorem dX13_person_111 : decode cX13_person 111 = .ok (.goto 4, 3) := by decide +kernel
theorem dX13_person_114 : decode cX13_person 114 = .ok (.iconst 0, 1) := by decide +kernel
theorem dX13_person_115 : decode cX13_person 115 = .ok (.ireturn, 1) := by decide +kernel
theorem dX13_person_116 : decode cX13_person 116 = .ok (.aload_n 0, 1) := by decide +kernel
theorem dX13_person_117 : decode cX13_person 117 = .ok (.iconst 1, 1) := by decide +kernel
theorem dX13_person_118 : decode cX13_person 118 = .ok (.invokevirtual 318, 3) := by decide +kernel
theorem dX13_person_121 : decode cX13_person 121 = .ok (.ireturn, 1) := by decide +kernel
set_option maxRecDepth 20000 in
theorem ggX13_box_X13_isCase : GoodIn wsX13_box wsX13_isCase := goodIn_r _ [11, 12, 13, 14, 10, 15, 58, 59, 60, 61, 62, 63, 64, 65, 66, 67, 68, 69, 70, 71, 72, 73, 74, 75, 76, 77, 78, 79, 80, 81, 82, 83, 84, 85, 86, 87, 88, 89, 90, 91, 92, 93, 94, 95, 96, 97, 98, 99, 100, 101, 102, 103, 104, 105, 106, 107, 108, 109, 110, 111, 112, 113, 114, 115, 116, 117, 118, 119, 120, 121, 122, 123, 124] rfl (by decide +kernel)
set_option maxRecDepth 20000 in
theorem gX13_box_X13_isCase : GoodIn wsX13_box (wsV RX13 363 RX13 yX13_isCase wsX13_isCase) := goodIn_app (goodIn_of _ (by decide +kernel)) ggX13_box_X13_isCase
set_option maxRecDepth 20000 in
theorem ggX13_box_X13_fail : GoodIn wsX13_box wsX13_fail := goodIn_r _ [19, 1, 58, 59, 60, 61, 62, 63, 64, 65, 66, 67, 68, 69, 70, 71, 72, 73, 74, 75, 76, 77, 78, 79, 80, 81, 82, 83, 84, 85, 86, 87, 88, 89, 90, 91, 92, 93, 94, 95, 96, 97, 98, 99, 100, 101, 102, 103, 104, 105, 106, 107, 108, 109, 110, 111, 112, 113, 114, 115, 116, 117, 118, 119, 120, 121, 122, 123, 124] rfl (by decide +kernel)
set_option maxRecDepth 20000 in
theorem gX13_box_X13_fail : GoodIn wsX13_box (wsV RX13 318 RX13 yX13_fail wsX13_fail) := goodIn_app (goodIn_of _ (by decide +kernel)) ggX13_box_X13_fail
set_option maxRecDepth 20000 in
theorem ggX13_box_X13_sumAt : GoodIn wsX13_box wsX13_sumAt := goodIn_r _ [23, 12, 24, 25, 26, 27, 28, 58, 59, 60, 61, 62, 63, 64, 65, 66, 67, 68, 69, 70, 71, 72, 73, 74, 75, 76, 77, 78, 79, 80, 81, 82, 83, 84, 85, 86, 87, 88, 89, 90, 91, 92, 93, 94, 95, 96, 97, 98, 99, 100, 101, 102, 103, 104, 105, 106, 107, 108, 109, 110, 111, 112, 113, 114, 115, 116, 117, 118, 119, 120, 121, 122, 123, 124] rfl (by decide +kernel)
set_option maxRecDepth 20000 in
theorem gX13_box_X13_sumAt : GoodIn wsX13_box (wsV RX13 351 RX13 yX13_sumAt wsX13_sumAt) := goodIn_app (goodIn_of _ (by decide +kernel)) ggX13_box_X13_sumAt
set_option maxRecDepth 20000 in
theorem ggX13_box_X13_overOf : GoodIn wsX13_box wsX13_overOf := goodIn_r _ [32, 3, 33, 34, 35, 36, 20, 21, 22, 10, 23, 12, 24, 25, 26, 27, 28, 58, 59, 60, 61, 62, 63, 64, 65, 66, 67, 68, 69, 70, 71, 72, 73, 74, 75, 76, 77, 78, 79, 80, 81, 82, 83, 84, 85, 86, 87, 88, 89, 90, 91, 92, 93, 94, 95, 96, 97, 98, 99, 100, 101, 102, 103, 104, 105, 106, 107, 108, 109, 110, 111, 112, 113, 114, 115, 116, 117, 118, 119, 120, 121, 122, 123, 124] rfl (by decide +kernel)
set_option maxRecDepth 20000 in
theorem gX13_box_X13_overOf : GoodIn wsX13_box (wsV RX13 375 RX13 yX13_overOf wsX13_overOf) := goodIn_app (goodIn_of _ (by decide +kernel)) ggX13_box_X13_overOf
set_option maxRecDepth 20000 in
theorem ggX13_box_X13_feeOf : GoodIn wsX13_box wsX13_feeOf := goodIn_r _ [40, 20, 21, 22, 10, 23, 12, 24, 25, 26, 27, 28, 41, 42, 43, 44, 3, 33, 34, 35, 36, 45, 46, 47, 48, 6, 49, 50, 51, 52, 53, 54, 55, 56, 57, 58, 59, 60, 61, 62, 63, 64, 65, 66, 67, 68, 69, 70, 71, 72, 73, 74, 75, 76, 77, 78, 79, 80, 81, 82, 83, 84, 85, 86, 87, 88, 89, 90, 91, 92, 93, 94, 95, 96, 97, 98, 99, 100, 101, 102, 103, 104, 105, 106, 107, 108, 109, 110, 111, 112, 113, 114, 115, 116, 117, 118, 119, 120, 121, 122, 123, 124] rfl (by decide +kernel)
set_option maxRecDepth 20000 in
theorem gX13_box_X13_feeOf : GoodIn wsX13_box (wsV RX13 372 RX13 yX13_feeOf wsX13_feeOf) := goodIn_app (goodIn_of _ (by decide +kernel)) ggX13_box_X13_feeOf
theorem dX13_box_0 : decode cX13_box 0 = .ok (.aload_n 0, 1) := by decide +kernel
theorem dX13_box_1 : decode cX13_box 1 = .ok (.iconst 0, 1) := by decide +kernel
theorem dX13_box_2 : decode cX13_box 2 = .ok (.putfield 173, 3) := by decide +kernel
theorem dX13_box_5 : decode cX13_box 5 = .ok (.aload_n 0, 1) := by decide +kernel
theorem dX13_box_6 : decode cX13_box 6 = .ok (.iload_n 1, 1) := by decide +kernel
theorem dX13_box_7 : decode cX13_box 7 = .ok (.invokevirtual 363, 3) := by decide +kernel
theorem dX13_box_10 : decode cX13_box 10 = .ok (.ifCond .ne 9, 3) := by decide +kernel
theorem dX13_box_13 : decode cX13_box 13 = .ok (.aload_n 0, 1) := by decide +kernel
theorem dX13_box_14 : decode cX13_box 14 = .ok (.iconst 1, 1) := by decide +kernel
theorem dX13_box_15 : decode cX13_box 15 = .ok (.invokevirtual 318, 3) := by decide +kernel
theorem dX13_box_18 : decode cX13_box 18 = .ok (.ireturn, 1) := by decide +kernel
