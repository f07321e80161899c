/-! ===== the law's methods over its arrays: their functions and rows ===== -/
theorem dL_words_0 : decode cL_words 0 = .ok (.iconst 0, 1) := by decide +kernel
theorem dL_words_1 : decode cL_words 1 = .ok (.istore 7, 2) := by decide +kernel
theorem dL_words_3 : decode cL_words 3 = .ok (.aload_n 1, 1) := by decide +kernel
theorem dL_words_4 : decode cL_words 4 = .ok (.bipush 6, 2) := by decide +kernel
theorem dL_words_6 : decode cL_words 6 = .ok (.iload 5, 2) := by decide +kernel
theorem dL_words_8 : decode cL_words 8 = .ok (.imul, 1) := by decide +kernel
theorem dL_words_9 : decode cL_words 9 = .ok (.iaload, 1) := by decide +kernel
theorem dL_words_10 : decode cL_words 10 = .ok (.istore 8, 2) := by decide +kernel
theorem dL_words_12 : decode cL_words 12 = .ok (.aload_n 1, 1) := by decide +kernel
theorem dL_words_13 : decode cL_words 13 = .ok (.iload 5, 2) := by decide +kernel
theorem dL_words_15 : decode cL_words 15 = .ok (.invokestatic 30, 3) := by decide +kernel
theorem dL_words_18 : decode cL_words 18 = .ok (.istore 9, 2) := by decide +kernel
theorem dL_words_20 : decode cL_words 20 = .ok (.iconst 0, 1) := by decide +kernel
theorem dL_words_21 : decode cL_words 21 = .ok (.istore 10, 2) := by decide +kernel
theorem dL_words_23 : decode cL_words 23 = .ok (.iload 10, 2) := by decide +kernel
theorem dL_words_25 : decode cL_words 25 = .ok (.aload_n 2, 1) := by decide +kernel
theorem dL_words_26 : decode cL_words 26 = .ok (.iload 5, 2) := by decide +kernel
theorem dL_words_28 : decode cL_words 28 = .ok (.laload, 1) := by decide +kernel
theorem dL_words_29 : decode cL_words 29 = .ok (.invokestatic 34, 3) := by decide +kernel
theorem dL_words_32 : decode cL_words 32 = .ok (.if_icmp .ge 32, 3) := by decide +kernel
theorem dL_words_35 : decode cL_words 35 = .ok (.aload 6, 2) := by decide +kernel
theorem dL_words_37 : decode cL_words 37 = .ok (.iload 7, 2) := by decide +kernel
theorem dL_words_39 : decode cL_words 39 = .ok (.aload_n 2, 1) := by decide +kernel
theorem dL_words_40 : decode cL_words 40 = .ok (.iload 5, 2) := by decide +kernel
theorem dL_words_42 : decode cL_words 42 = .ok (.laload, 1) := by decide +kernel
theorem dL_words_43 : decode cL_words 43 = .ok (.bipush 20, 2) := by decide +kernel
theorem dL_words_45 : decode cL_words 45 = .ok (.iload 10, 2) := by decide +kernel
theorem dL_words_47 : decode cL_words 47 = .ok (.imul, 1) := by decide +kernel
theorem dL_words_48 : decode cL_words 48 = .ok (.lshr, 1) := by decide +kernel
theorem dL_words_49 : decode cL_words 49 = .ok (.ldc2_w 38, 3) := by decide +kernel
theorem dL_words_52 : decode cL_words 52 = .ok (.land, 1) := by decide +kernel
theorem dL_words_53 : decode cL_words 53 = .ok (.l2i, 1) := by decide +kernel
theorem dL_words_54 : decode cL_words 54 = .ok (.iastore, 1) := by decide +kernel
theorem dL_words_55 : decode cL_words 55 = .ok (.iinc 7 1, 3) := by decide +kernel
theorem dL_words_58 : decode cL_words 58 = .ok (.iinc 10 1, 3) := by decide +kernel
theorem dL_words_61 : decode cL_words 61 = .ok (.goto (-38), 3) := by decide +kernel
theorem dL_words_64 : decode cL_words 64 = .ok (.iload 9, 2) := by decide +kernel
theorem dL_words_66 : decode cL_words 66 = .ok (.ifCond .gt 8, 3) := by decide +kernel
theorem dL_words_69 : decode cL_words 69 = .ok (.iload 7, 2) := by decide +kernel
theorem dL_words_71 : decode cL_words 71 = .ok (.ifCond .ne 15, 3) := by decide +kernel
theorem dL_words_74 : decode cL_words 74 = .ok (.aload 6, 2) := by decide +kernel
theorem dL_words_76 : decode cL_words 76 = .ok (.iload 7, 2) := by decide +kernel
theorem dL_words_78 : decode cL_words 78 = .ok (.iload 8, 2) := by decide +kernel
theorem dL_words_80 : decode cL_words 80 = .ok (.invokestatic 40, 3) := by decide +kernel
theorem dL_words_83 : decode cL_words 83 = .ok (.goto 5, 3) := by decide +kernel
theorem dL_words_86 : decode cL_words 86 = .ok (.iload 7, 2) := by decide +kernel
theorem dL_words_88 : decode cL_words 88 = .ok (.istore 7, 2) := by decide +kernel
theorem dL_words_90 : decode cL_words 90 = .ok (.iload 8, 2) := by decide +kernel
theorem dL_words_92 : decode cL_words 92 = .ok (.iconst 3, 1) := by decide +kernel
theorem dL_words_93 : decode cL_words 93 = .ok (.if_icmp .ne 62, 3) := by decide +kernel
theorem dL_words_96 : decode cL_words 96 = .ok (.aload_n 1, 1) := by decide +kernel
theorem dL_words_97 : decode cL_words 97 = .ok (.bipush 6, 2) := by decide +kernel
theorem dL_words_99 : decode cL_words 99 = .ok (.iload 5, 2) := by decide +kernel
theorem dL_words_101 : decode cL_words 101 = .ok (.imul, 1) := by decide +kernel
theorem dL_words_102 : decode cL_words 102 = .ok (.iconst 3, 1) := by decide +kernel
theorem dL_words_103 : decode cL_words 103 = .ok (.iadd, 1) := by decide +kernel
theorem dL_words_104 : decode cL_words 104 = .ok (.iaload, 1) := by decide +kernel
theorem dL_words_105 : decode cL_words 105 = .ok (.iconst 4, 1) := by decide +kernel
theorem dL_words_106 : decode cL_words 106 = .ok (.iand, 1) := by decide +kernel
theorem dL_words_107 : decode cL_words 107 = .ok (.iconst 4, 1) := by decide +kernel
theorem dL_words_108 : decode cL_words 108 = .ok (.if_icmp .ne 7, 3) := by decide +kernel
theorem dL_words_111 : decode cL_words 111 = .ok (.iconst 1, 1) := by decide +kernel
theorem dL_words_112 : decode cL_words 112 = .ok (.goto 4, 3) := by decide +kernel
theorem dL_words_115 : decode cL_words 115 = .ok (.iconst 0, 1) := by decide +kernel
theorem dL_words_116 : decode cL_words 116 = .ok (.istore 10, 2) := by decide +kernel
theorem dL_words_118 : decode cL_words 118 = .ok (.aload 6, 2) := by decide +kernel
theorem dL_words_120 : decode cL_words 120 = .ok (.iload 7, 2) := by decide +kernel
theorem dL_words_122 : decode cL_words 122 = .ok (.bipush 111, 2) := by decide +kernel
theorem dL_words_124 : decode cL_words 124 = .ok (.iload 10, 2) := by decide +kernel
theorem dL_words_126 : decode cL_words 126 = .ok (.ifCond .eq 8, 3) := by decide +kernel
theorem dL_words_129 : decode cL_words 129 = .ok (.bipush 110, 2) := by decide +kernel
theorem dL_words_131 : decode cL_words 131 = .ok (.goto 5, 3) := by decide +kernel
theorem dL_words_134 : decode cL_words 134 = .ok (.bipush 102, 2) := by decide +kernel
theorem dL_words_136 : decode cL_words 136 = .ok (.iload 10, 2) := by decide +kernel
theorem dL_words_138 : decode cL_words 138 = .ok (.ifCond .eq 7, 3) := by decide +kernel
theorem dL_words_141 : decode cL_words 141 = .ok (.iconst 0, 1) := by decide +kernel
theorem dL_words_142 : decode cL_words 142 = .ok (.goto 5, 3) := by decide +kernel
theorem dL_words_145 : decode cL_words 145 = .ok (.bipush 102, 2) := by decide +kernel
theorem dL_words_147 : decode cL_words 147 = .ok (.iconst 0, 1) := by decide +kernel
theorem dL_words_148 : decode cL_words 148 = .ok (.iconst 0, 1) := by decide +kernel
theorem dL_words_149 : decode cL_words 149 = .ok (.iconst 0, 1) := by decide +kernel
theorem dL_words_150 : decode cL_words 150 = .ok (.invokestatic 20, 3) := by decide +kernel
theorem dL_words_153 : decode cL_words 153 = .ok (.istore 7, 2) := by decide +kernel
theorem dL_words_155 : decode cL_words 155 = .ok (.iconst 0, 1) := by decide +kernel
theorem dL_words_156 : decode cL_words 156 = .ok (.istore 10, 2) := by decide +kernel
theorem dL_words_158 : decode cL_words 158 = .ok (.iload 10, 2) := by decide +kernel
theorem dL_words_160 : decode cL_words 160 = .ok (.aload 4, 2) := by decide +kernel
theorem dL_words_162 : decode cL_words 162 = .ok (.iload 5, 2) := by decide +kernel
theorem dL_words_164 : decode cL_words 164 = .ok (.iaload, 1) := by decide +kernel
theorem dL_words_165 : decode cL_words 165 = .ok (.if_icmp .ge 45, 3) := by decide +kernel
theorem dL_words_168 : decode cL_words 168 = .ok (.iload 10, 2) := by decide +kernel
theorem dL_words_170 : decode cL_words 170 = .ok (.ifCond .ne 18, 3) := by decide +kernel
theorem dL_words_173 : decode cL_words 173 = .ok (.iload 7, 2) := by decide +kernel
theorem dL_words_175 : decode cL_words 175 = .ok (.ifCond .le 13, 3) := by decide +kernel
theorem dL_words_178 : decode cL_words 178 = .ok (.aload 6, 2) := by decide +kernel
theorem dL_words_180 : decode cL_words 180 = .ok (.iload 7, 2) := by decide +kernel
theorem dL_words_182 : decode cL_words 182 = .ok (.bipush 32, 2) := by decide +kernel
theorem dL_words_184 : decode cL_words 184 = .ok (.iastore, 1) := by decide +kernel
theorem dL_words_185 : decode cL_words 185 = .ok (.iinc 7 1, 3) := by decide +kernel
theorem dL_words_188 : decode cL_words 188 = .ok (.aload 6, 2) := by decide +kernel
theorem dL_words_190 : decode cL_words 190 = .ok (.iload 7, 2) := by decide +kernel
theorem dL_words_192 : decode cL_words 192 = .ok (.aload_n 3, 1) := by decide +kernel
theorem dL_words_193 : decode cL_words 193 = .ok (.iload 5, 2) := by decide +kernel
theorem dL_words_195 : decode cL_words 195 = .ok (.iload 10, 2) := by decide +kernel
theorem dL_words_197 : decode cL_words 197 = .ok (.invokestatic 44, 3) := by decide +kernel
theorem dL_words_200 : decode cL_words 200 = .ok (.iastore, 1) := by decide +kernel
theorem dL_words_201 : decode cL_words 201 = .ok (.iinc 7 1, 3) := by decide +kernel
theorem dL_words_204 : decode cL_words 204 = .ok (.iinc 10 1, 3) := by decide +kernel
theorem dL_words_207 : decode cL_words 207 = .ok (.goto (-49), 3) := by decide +kernel
theorem dL_words_210 : decode cL_words 210 = .ok (.iload 9, 2) := by decide +kernel
theorem dL_words_212 : decode cL_words 212 = .ok (.iconst 2, 1) := by decide +kernel
theorem dL_words_213 : decode cL_words 213 = .ok (.if_icmp .ne 225, 3) := by decide +kernel
theorem dL_words_216 : decode cL_words 216 = .ok (.iload 5, 2) := by decide +kernel
theorem dL_words_218 : decode cL_words 218 = .ok (.ifCond .le 220, 3) := by decide +kernel
theorem dL_words_221 : decode cL_words 221 = .ok (.iconst 0, 1) := by decide +kernel
theorem dL_words_222 : decode cL_words 222 = .ok (.istore 10, 2) := by decide +kernel
theorem dL_words_224 : decode cL_words 224 = .ok (.iconst 0, 1) := by decide +kernel
theorem dL_words_225 : decode cL_words 225 = .ok (.istore 11, 2) := by decide +kernel
theorem dL_words_227 : decode cL_words 227 = .ok (.iconst 0, 1) := by decide +kernel
theorem dL_words_228 : decode cL_words 228 = .ok (.istore 12, 2) := by decide +kernel
theorem dL_words_230 : decode cL_words 230 = .ok (.iload 12, 2) := by decide +kernel
theorem dL_words_232 : decode cL_words 232 = .ok (.aload_n 0, 1) := by decide +kernel
theorem dL_words_233 : decode cL_words 233 = .ok (.iconst 0, 1) := by decide +kernel
theorem dL_words_234 : decode cL_words 234 = .ok (.iaload, 1) := by decide +kernel
theorem dL_words_235 : decode cL_words 235 = .ok (.if_icmp .ge 106, 3) := by decide +kernel
theorem dL_words_238 : decode cL_words 238 = .ok (.aload_n 1, 1) := by decide +kernel
theorem dL_words_239 : decode cL_words 239 = .ok (.iload 12, 2) := by decide +kernel
theorem dL_words_241 : decode cL_words 241 = .ok (.invokestatic 7, 3) := by decide +kernel
theorem dL_words_244 : decode cL_words 244 = .ok (.ifCond .eq 37, 3) := by decide +kernel
theorem dL_words_247 : decode cL_words 247 = .ok (.aload_n 1, 1) := by decide +kernel
theorem dL_words_248 : decode cL_words 248 = .ok (.iload 12, 2) := by decide +kernel
theorem dL_words_250 : decode cL_words 250 = .ok (.invokestatic 13, 3) := by decide +kernel
theorem dL_words_253 : decode cL_words 253 = .ok (.ifCond .ne 28, 3) := by decide +kernel
theorem dL_words_256 : decode cL_words 256 = .ok (.aload_n 1, 1) := by decide +kernel
theorem dL_words_257 : decode cL_words 257 = .ok (.bipush 6, 2) := by decide +kernel
theorem dL_words_259 : decode cL_words 259 = .ok (.iload 12, 2) := by decide +kernel
theorem dL_words_261 : decode cL_words 261 = .ok (.imul, 1) := by decide +kernel
theorem dL_words_262 : decode cL_words 262 = .ok (.iconst 1, 1) := by decide +kernel
theorem dL_words_263 : decode cL_words 263 = .ok (.iadd, 1) := by decide +kernel
theorem dL_words_264 : decode cL_words 264 = .ok (.iaload, 1) := by decide +kernel
theorem dL_words_265 : decode cL_words 265 = .ok (.aload_n 1, 1) := by decide +kernel
theorem dL_words_266 : decode cL_words 266 = .ok (.bipush 6, 2) := by decide +kernel
theorem dL_words_268 : decode cL_words 268 = .ok (.iload 5, 2) := by decide +kernel
theorem dL_words_270 : decode cL_words 270 = .ok (.imul, 1) := by decide +kernel
theorem dL_words_271 : decode cL_words 271 = .ok (.iconst 1, 1) := by decide +kernel
theorem dL_words_272 : decode cL_words 272 = .ok (.iadd, 1) := by decide +kernel
theorem dL_words_273 : decode cL_words 273 = .ok (.iaload, 1) := by decide +kernel
theorem dL_words_274 : decode cL_words 274 = .ok (.if_icmp .ne 7, 3) := by decide +kernel
theorem dL_words_277 : decode cL_words 277 = .ok (.iconst 1, 1) := by decide +kernel
theorem dL_words_278 : decode cL_words 278 = .ok (.goto 4, 3) := by decide +kernel
theorem dL_words_281 : decode cL_words 281 = .ok (.iconst 0, 1) := by decide +kernel
theorem dL_words_282 : decode cL_words 282 = .ok (.istore 13, 2) := by decide +kernel
theorem dL_words_284 : decode cL_words 284 = .ok (.iload 10, 2) := by decide +kernel
theorem dL_words_286 : decode cL_words 286 = .ok (.iload 13, 2) := by decide +kernel
theorem dL_words_288 : decode cL_words 288 = .ok (.ifCond .eq 7, 3) := by decide +kernel
theorem dL_words_291 : decode cL_words 291 = .ok (.iconst 1, 1) := by decide +kernel
theorem dL_words_292 : decode cL_words 292 = .ok (.goto 4, 3) := by decide +kernel
theorem dL_words_295 : decode cL_words 295 = .ok (.iconst 0, 1) := by decide +kernel
theorem dL_words_296 : decode cL_words 296 = .ok (.iadd, 1) := by decide +kernel
theorem dL_words_297 : decode cL_words 297 = .ok (.istore 10, 2) := by decide +kernel
theorem dL_words_299 : decode cL_words 299 = .ok (.iload 11, 2) := by decide +kernel
theorem dL_words_301 : decode cL_words 301 = .ok (.iload 13, 2) := by decide +kernel
theorem dL_words_303 : decode cL_words 303 = .ok (.ifCond .eq 28, 3) := by decide +kernel
theorem dL_words_306 : decode cL_words 306 = .ok (.aload_n 1, 1) := by decide +kernel
theorem dL_words_307 : decode cL_words 307 = .ok (.bipush 6, 2) := by decide +kernel
theorem dL_words_309 : decode cL_words 309 = .ok (.iload 12, 2) := by decide +kernel
theorem dL_words_311 : decode cL_words 311 = .ok (.imul, 1) := by decide +kernel
theorem dL_words_312 : decode cL_words 312 = .ok (.iconst 2, 1) := by decide +kernel
theorem dL_words_313 : decode cL_words 313 = .ok (.iadd, 1) := by decide +kernel
theorem dL_words_314 : decode cL_words 314 = .ok (.iaload, 1) := by decide +kernel
theorem dL_words_315 : decode cL_words 315 = .ok (.aload_n 1, 1) := by decide +kernel
theorem dL_words_316 : decode cL_words 316 = .ok (.bipush 6, 2) := by decide +kernel
theorem dL_words_318 : decode cL_words 318 = .ok (.iload 5, 2) := by decide +kernel
theorem dL_words_320 : decode cL_words 320 = .ok (.imul, 1) := by decide +kernel
theorem dL_words_321 : decode cL_words 321 = .ok (.iconst 2, 1) := by decide +kernel
theorem dL_words_322 : decode cL_words 322 = .ok (.iadd, 1) := by decide +kernel
theorem dL_words_323 : decode cL_words 323 = .ok (.iaload, 1) := by decide +kernel
theorem dL_words_324 : decode cL_words 324 = .ok (.if_icmp .gt 7, 3) := by decide +kernel
theorem dL_words_327 : decode cL_words 327 = .ok (.iconst 1, 1) := by decide +kernel
theorem dL_words_328 : decode cL_words 328 = .ok (.goto 4, 3) := by decide +kernel
theorem dL_words_331 : decode cL_words 331 = .ok (.iconst 0, 1) := by decide +kernel
theorem dL_words_332 : decode cL_words 332 = .ok (.iadd, 1) := by decide +kernel
theorem dL_words_333 : decode cL_words 333 = .ok (.istore 11, 2) := by decide +kernel
theorem dL_words_335 : decode cL_words 335 = .ok (.iinc 12 1, 3) := by decide +kernel
theorem dL_words_338 : decode cL_words 338 = .ok (.goto (-108), 3) := by decide +kernel
theorem dL_words_341 : decode cL_words 341 = .ok (.aload 6, 2) := by decide +kernel
theorem dL_words_343 : decode cL_words 343 = .ok (.iload 7, 2) := by decide +kernel
theorem dL_words_345 : decode cL_words 345 = .ok (.iload 11, 2) := by decide +kernel
theorem dL_words_347 : decode cL_words 347 = .ok (.bipush 9, 2) := by decide +kernel
theorem dL_words_349 : decode cL_words 349 = .ok (.if_icmp .le 14, 3) := by decide +kernel
theorem dL_words_352 : decode cL_words 352 = .ok (.bipush 48, 2) := by decide +kernel
theorem dL_words_354 : decode cL_words 354 = .ok (.iload 11, 2) := by decide +kernel
theorem dL_words_356 : decode cL_words 356 = .ok (.bipush 10, 2) := by decide +kernel
theorem dL_words_358 : decode cL_words 358 = .ok (.idiv, 1) := by decide +kernel
theorem dL_words_359 : decode cL_words 359 = .ok (.iadd, 1) := by decide +kernel
theorem dL_words_360 : decode cL_words 360 = .ok (.goto 4, 3) := by decide +kernel
theorem dL_words_363 : decode cL_words 363 = .ok (.iconst 0, 1) := by decide +kernel
theorem dL_words_364 : decode cL_words 364 = .ok (.bipush 48, 2) := by decide +kernel
theorem dL_words_366 : decode cL_words 366 = .ok (.iload 11, 2) := by decide +kernel
theorem dL_words_368 : decode cL_words 368 = .ok (.bipush 10, 2) := by decide +kernel
theorem dL_words_370 : decode cL_words 370 = .ok (.irem, 1) := by decide +kernel
theorem dL_words_371 : decode cL_words 371 = .ok (.iadd, 1) := by decide +kernel
theorem dL_words_372 : decode cL_words 372 = .ok (.iconst 0, 1) := by decide +kernel
theorem dL_words_373 : decode cL_words 373 = .ok (.iconst 0, 1) := by decide +kernel
theorem dL_words_374 : decode cL_words 374 = .ok (.iconst 0, 1) := by decide +kernel
theorem dL_words_375 : decode cL_words 375 = .ok (.iconst 0, 1) := by decide +kernel
theorem dL_words_376 : decode cL_words 376 = .ok (.invokestatic 20, 3) := by decide +kernel
theorem dL_words_379 : decode cL_words 379 = .ok (.istore 7, 2) := by decide +kernel
theorem dL_words_381 : decode cL_words 381 = .ok (.aload 6, 2) := by decide +kernel
theorem dL_words_383 : decode cL_words 383 = .ok (.iload 7, 2) := by decide +kernel
theorem dL_words_385 : decode cL_words 385 = .ok (.bipush 111, 2) := by decide +kernel
theorem dL_words_387 : decode cL_words 387 = .ok (.bipush 102, 2) := by decide +kernel
theorem dL_words_389 : decode cL_words 389 = .ok (.iconst 0, 1) := by decide +kernel
theorem dL_words_390 : decode cL_words 390 = .ok (.iconst 0, 1) := by decide +kernel
theorem dL_words_391 : decode cL_words 391 = .ok (.iconst 0, 1) := by decide +kernel
theorem dL_words_392 : decode cL_words 392 = .ok (.iconst 0, 1) := by decide +kernel
theorem dL_words_393 : decode cL_words 393 = .ok (.invokestatic 20, 3) := by decide +kernel
theorem dL_words_396 : decode cL_words 396 = .ok (.istore 7, 2) := by decide +kernel
theorem dL_words_398 : decode cL_words 398 = .ok (.aload 6, 2) := by decide +kernel
theorem dL_words_400 : decode cL_words 400 = .ok (.iload 7, 2) := by decide +kernel
theorem dL_words_402 : decode cL_words 402 = .ok (.iload 10, 2) := by decide +kernel
theorem dL_words_404 : decode cL_words 404 = .ok (.bipush 9, 2) := by decide +kernel
theorem dL_words_406 : decode cL_words 406 = .ok (.if_icmp .le 14, 3) := by decide +kernel
theorem dL_words_409 : decode cL_words 409 = .ok (.bipush 48, 2) := by decide +kernel
theorem dL_words_411 : decode cL_words 411 = .ok (.iload 10, 2) := by decide +kernel
theorem dL_words_413 : decode cL_words 413 = .ok (.bipush 10, 2) := by decide +kernel
theorem dL_words_415 : decode cL_words 415 = .ok (.idiv, 1) := by decide +kernel
theorem dL_words_416 : decode cL_words 416 = .ok (.iadd, 1) := by decide +kernel
theorem dL_words_417 : decode cL_words 417 = .ok (.goto 4, 3) := by decide +kernel
theorem dL_words_420 : decode cL_words 420 = .ok (.iconst 0, 1) := by decide +kernel
theorem dL_words_421 : decode cL_words 421 = .ok (.bipush 48, 2) := by decide +kernel
theorem dL_words_423 : decode cL_words 423 = .ok (.iload 10, 2) := by decide +kernel
theorem dL_words_425 : decode cL_words 425 = .ok (.bipush 10, 2) := by decide +kernel
theorem dL_words_427 : decode cL_words 427 = .ok (.irem, 1) := by decide +kernel
theorem dL_words_428 : decode cL_words 428 = .ok (.iadd, 1) := by decide +kernel
theorem dL_words_429 : decode cL_words 429 = .ok (.iconst 0, 1) := by decide +kernel
theorem dL_words_430 : decode cL_words 430 = .ok (.iconst 0, 1) := by decide +kernel
theorem dL_words_431 : decode cL_words 431 = .ok (.iconst 0, 1) := by decide +kernel
theorem dL_words_432 : decode cL_words 432 = .ok (.iconst 0, 1) := by decide +kernel
theorem dL_words_433 : decode cL_words 433 = .ok (.invokestatic 20, 3) := by decide +kernel
theorem dL_words_436 : decode cL_words 436 = .ok (.istore 7, 2) := by decide +kernel
theorem dL_words_438 : decode cL_words 438 = .ok (.iload 7, 2) := by decide +kernel
theorem dL_words_440 : decode cL_words 440 = .ok (.ireturn, 1) := by decide +kernel
abbrev mL_words : gM := (yL_words, cL_words, 14, (Option.some FieldType.int), [])
theorem caL_words : cal mL_words 7 := ⟨xw 1200 (by decide +kernel) rfl, xw 28 (by decide +kernel) rfl, by decide, by decide +kernel⟩
theorem csL_words : Cond.static yL_words ∈ XW := xw 1199 (by decide +kernel) rfl
theorem lkL_30 : Cond.methodLink RL 30 yL_level ∈ XW := xw 886 (by decide +kernel) rfl
theorem lkL_34 : Cond.methodLink RL 34 yL_nameMany ∈ XW := xw 870 (by decide +kernel) rfl
theorem clL_38 : Cond.constantLong RL 38 (1048575 : Int64) ∈ XW := xw 895 (by decide +kernel) rfl
theorem lkL_40 : Cond.methodLink RL 40 yL_saysKind ∈ XW := xw 889 (by decide +kernel) rfl
theorem lkL_44 : Cond.methodLink RL 44 yL_typed ∈ XW := xw 905 (by decide +kernel) rfl
/-! BrailleDeskLaw.words -/
theorem lL_words_23 {G : gG} {Q : hQ} {P : (Int32 × hp) → Prop} {k n : Nat} (c0 : (Option Nat)) (c1 : (Option Nat)) (c2 : (Option Nat)) (c3 : (Option Nat)) (c4 : (Option Nat)) (c5 : Int32) (c6 : (Option Nat)) (c8 : Int32) (c9 : Int32) (hJ : ∀ q : (Int32 × hp), P q → gV G mL_words 2 Q 64 [some (sr c0), some (sr c1), none, some (sr c3), some (sr c4), some (si c5), some (sr c6), some (si q.1), some (si c8), some (si c9), none, none, none, none] [] (k) (n) q.2) : ∀ (fu : Nat) (a : (Int32 × Int32 × hp)), okB (itr (fL_words_B23 c0 c1 c2 c3 c4 c5 c6 c8 c9) fu a) P → gV G mL_words 2 Q 23 [some (sr c0), some (sr c1), some (sr c2), some (sr c3), some (sr c4), some (si c5), some (sr c6), some (si a.1), some (si c8), some (si c9), some (si a.2.1), none, none, none] [] (k) (n) a.2.2 :=
  lpg (X := fun (a : (Int32 × Int32 × hp)) => gV G mL_words 2 Q 23 [some (sr c0), some (sr c1), some (sr c2), some (sr c3), some (sr c4), some (si c5), some (sr c6), some (si a.1), some (si c8), some (si c9), some (si a.2.1), none, none, none] [] (k) (n) a.2.2) (fun a P2 hL hE hF => by
    delta fL_words_B23 at hF
    refine v_iload (pc := 23) (i := 10) dL_words_23 rfl ?_
    refine v_aload_n (pc := 25) (i := 2) dL_words_25 rfl rfl ?_
    refine v_iload (pc := 26) (i := 5) dL_words_26 rfl ?_
    refine s_lald (pc := 28) dL_words_28 hF (fun x1 hF => ?_)
    refine cp_S (pc := 29) gI (as := [sl x1]) (st := [si a.2.1]) (N := mL_nameMany) (k := k) (n := n) (k1 := 0) (n1 := 0) dL_words_29 lkL_34 caL_nameMany csL_nameMany rfl (fun Q1 hq => tL_nameMany x1 a.2.2 Q1 hq) ⟨by decide, by decide⟩ (Nat.le_of_ble_eq_true rfl) rfl hF (fun x2 hF => ?_)
    show gV G mL_words 2 Q 32 [some (sr c0), some (sr c1), some (sr c2), some (sr c3), some (sr c4), some (si c5), some (sr c6), some (si a.1), some (si c8), some (si c9), some (si a.2.1), none, none, none] [si x2, si a.2.1] (k) (n) a.2.2
    refine v_icmp_ge (pc := 32) 64 dL_words_32 rfl (fun hc => ?_) (fun hc => ?_)
    · replace hF := (okB_if hF).1 hc
      exact v_lle [some (sr c0), some (sr c1), none, some (sr c3), some (sr c4), some (si c5), some (sr c6), some (si a.1), some (si c8), some (si c9), none, none, none, none] ⟨rfl, rfl, rfl, rfl, rfl, rfl, rfl, rfl, rfl, trivial⟩ (hJ (a.1, a.2.2) (hE _ (okB_some hF)))
    replace hF := (okB_if hF).2 hc
    refine v_aload (pc := 35) (i := 6) dL_words_35 rfl ?_
    refine v_iload (pc := 37) (i := 7) dL_words_37 rfl ?_
    refine v_aload_n (pc := 39) (i := 2) dL_words_39 rfl rfl ?_
    refine v_iload (pc := 40) (i := 5) dL_words_40 rfl ?_
    refine s_lald (pc := 42) dL_words_42 hF (fun x3 hF => ?_)
    refine v_bipush (pc := 43) (v := (20 : Int32)) dL_words_43 rfl ?_
    refine v_iload (pc := 45) (i := 10) dL_words_45 rfl ?_
    refine v_imul (pc := 47) dL_words_47 ?_
    refine v_lshr (pc := 48) dL_words_48 ?_
    refine v_ldc2 (pc := 49) (v := (1048575 : Int64)) dL_words_49 clL_38 ?_
    refine v_land (pc := 52) dL_words_52 ?_
    refine v_l2i (pc := 53) dL_words_53 ?_
    refine s_iast (pc := 54) dL_words_54 hF (fun h4 hF => ?_)
    refine v_iinc (pc := 55) (i := 7) (a.1 + (1 : Int32)) [some (sr c0), some (sr c1), some (sr c2), some (sr c3), some (sr c4), some (si c5), some (sr c6), some (si (a.1 + (1 : Int32))), some (si c8), some (si c9), some (si a.2.1), none, none, none] dL_words_55 rfl rfl rfl rfl ?_
    refine v_iinc (pc := 58) (i := 10) (a.2.1 + (1 : Int32)) [some (sr c0), some (sr c1), some (sr c2), some (sr c3), some (sr c4), some (si c5), some (sr c6), some (si (a.1 + (1 : Int32))), some (si c8), some (si c9), some (si (a.2.1 + (1 : Int32))), none, none, none] dL_words_58 rfl rfl rfl rfl ?_
    refine v_goto (pc := 61) 23 dL_words_61 rfl ?_
    exact v_lle [some (sr c0), some (sr c1), some (sr c2), some (sr c3), some (sr c4), some (si c5), some (sr c6), some (si (a.1 + (1 : Int32))), some (si c8), some (si c9), some (si (a.2.1 + (1 : Int32))), none, none, none] ⟨rfl, rfl, rfl, rfl, rfl, rfl, rfl, rfl, rfl, rfl, rfl, trivial⟩ (hL (a.1 + (1 : Int32), a.2.1 + (1 : Int32), h4) (okB_some hF)))
theorem lL_words_158 {G : gG} {Q : hQ} {P : (Int32 × hp) → Prop} {k n : Nat} (c0 : (Option Nat)) (c1 : (Option Nat)) (c3 : (Option Nat)) (c4 : (Option Nat)) (c5 : Int32) (c6 : (Option Nat)) (c9 : Int32) (hJ : ∀ q : (Int32 × hp), P q → gV G mL_words 2 Q 210 [some (sr c0), some (sr c1), none, none, none, some (si c5), some (sr c6), some (si q.1), none, some (si c9), none, none, none, none] [] (k) (n) q.2) : ∀ (fu : Nat) (a : (Int32 × Int32 × hp)), okB (itr (fL_words_B158 c0 c1 c3 c4 c5 c6 c9) fu a) P → gV G mL_words 2 Q 158 [some (sr c0), some (sr c1), none, some (sr c3), some (sr c4), some (si c5), some (sr c6), some (si a.1), none, some (si c9), some (si a.2.1), none, none, none] [] (k) (n) a.2.2 :=
  lpg (X := fun (a : (Int32 × Int32 × hp)) => gV G mL_words 2 Q 158 [some (sr c0), some (sr c1), none, some (sr c3), some (sr c4), some (si c5), some (sr c6), some (si a.1), none, some (si c9), some (si a.2.1), none, none, none] [] (k) (n) a.2.2) (fun a P2 hL hE hF => by
    delta fL_words_B158 at hF
    refine v_iload (pc := 158) (i := 10) dL_words_158 rfl ?_
    refine v_aload (pc := 160) (i := 4) dL_words_160 rfl ?_
    refine v_iload (pc := 162) (i := 5) dL_words_162 rfl ?_
    refine s_iald (pc := 164) dL_words_164 hF (fun x1 hF => ?_)
    refine v_icmp_ge (pc := 165) 210 dL_words_165 rfl (fun hc => ?_) (fun hc => ?_)
    · replace hF := (okB_if hF).1 hc
      exact v_lle [some (sr c0), some (sr c1), none, none, none, some (si c5), some (sr c6), some (si a.1), none, some (si c9), none, none, none, none] ⟨rfl, rfl, rfl, rfl, rfl, rfl, trivial⟩ (hJ (a.1, a.2.2) (hE _ (okB_some hF)))
    replace hF := (okB_if hF).2 hc
    refine v_iload (pc := 168) (i := 10) dL_words_168 rfl ?_
    refine mg (X := fun q2 => gV G mL_words 2 Q 188 [some (sr c0), some (sr c1), none, some (sr c3), some (sr c4), some (si c5), some (sr c6), some (si q2.1), none, some (si c9), some (si a.2.1), none, none, none] [] (k) (n) q2.2) hF (fun _ hj3 hF => ?_) (fun q2 hF => ?_)
    · refine v_if_ne (pc := 170) 188 dL_words_170 rfl (fun hc => ?_) (fun hc => ?_)
      · replace hF := (okB_if hF).2 hc
        exact v_lle [some (sr c0), some (sr c1), none, some (sr c3), some (sr c4), some (si c5), some (sr c6), some (si a.1), none, some (si c9), some (si a.2.1), none, none, none] ⟨rfl, rfl, rfl, rfl, rfl, rfl, rfl, rfl, rfl, trivial⟩ (hj3 (a.1, a.2.2) (okB_some hF))
      replace hF := (okB_if hF).1 hc
      refine v_iload (pc := 173) (i := 7) dL_words_173 rfl ?_
      refine v_if_le (pc := 175) 188 dL_words_175 rfl (fun hc => ?_) (fun hc => ?_)
      · replace hF := (okB_if hF).1 hc
        exact v_lle [some (sr c0), some (sr c1), none, some (sr c3), some (sr c4), some (si c5), some (sr c6), some (si a.1), none, some (si c9), some (si a.2.1), none, none, none] ⟨rfl, rfl, rfl, rfl, rfl, rfl, rfl, rfl, rfl, trivial⟩ (hj3 (a.1, a.2.2) (okB_some hF))
      replace hF := (okB_if hF).2 hc
      refine v_aload (pc := 178) (i := 6) dL_words_178 rfl ?_
      refine v_iload (pc := 180) (i := 7) dL_words_180 rfl ?_
      refine v_bipush (pc := 182) (v := (32 : Int32)) dL_words_182 rfl ?_
      refine s_iast (pc := 184) dL_words_184 hF (fun h4 hF => ?_)
      refine v_iinc (pc := 185) (i := 7) (a.1 + (1 : Int32)) [some (sr c0), some (sr c1), none, some (sr c3), some (sr c4), some (si c5), some (sr c6), some (si (a.1 + (1 : Int32))), none, some (si c9), some (si a.2.1), none, none, none] dL_words_185 rfl rfl rfl rfl ?_
      exact v_lle [some (sr c0), some (sr c1), none, some (sr c3), some (sr c4), some (si c5), some (sr c6), some (si (a.1 + (1 : Int32))), none, some (si c9), some (si a.2.1), none, none, none] ⟨rfl, rfl, rfl, rfl, rfl, rfl, rfl, rfl, rfl, trivial⟩ (hj3 (a.1 + (1 : Int32), h4) (okB_some hF))
    refine v_aload (pc := 188) (i := 6) dL_words_188 rfl ?_
    refine v_iload (pc := 190) (i := 7) dL_words_190 rfl ?_
    refine v_aload_n (pc := 192) (i := 3) dL_words_192 rfl rfl ?_
    refine v_iload (pc := 193) (i := 5) dL_words_193 rfl ?_
    refine v_iload (pc := 195) (i := 10) dL_words_195 rfl ?_
    refine cp_S (pc := 197) gI (as := [sr c3, si c5, si a.2.1]) (st := [si q2.1, sr c6]) (N := mL_typed) (k := k) (n := n) (k1 := 0) (n1 := 0) dL_words_197 lkL_44 caL_typed csL_typed rfl (fun Q1 hq => tL_typed c3 c5 a.2.1 q2.2 Q1 hq) ⟨by decide, by decide⟩ (Nat.le_of_ble_eq_true rfl) rfl hF (fun x5 hF => ?_)
    show gV G mL_words 2 Q 200 [some (sr c0), some (sr c1), none, some (sr c3), some (sr c4), some (si c5), some (sr c6), some (si q2.1), none, some (si c9), some (si a.2.1), none, none, none] [si x5, si q2.1, sr c6] (k) (n) q2.2
    refine s_iast (pc := 200) dL_words_200 hF (fun h6 hF => ?_)
    refine v_iinc (pc := 201) (i := 7) (q2.1 + (1 : Int32)) [some (sr c0), some (sr c1), none, some (sr c3), some (sr c4), some (si c5), some (sr c6), some (si (q2.1 + (1 : Int32))), none, some (si c9), some (si a.2.1), none, none, none] dL_words_201 rfl rfl rfl rfl ?_
    refine v_iinc (pc := 204) (i := 10) (a.2.1 + (1 : Int32)) [some (sr c0), some (sr c1), none, some (sr c3), some (sr c4), some (si c5), some (sr c6), some (si (q2.1 + (1 : Int32))), none, some (si c9), some (si (a.2.1 + (1 : Int32))), none, none, none] dL_words_204 rfl rfl rfl rfl ?_
    refine v_goto (pc := 207) 158 dL_words_207 rfl ?_
    exact v_lle [some (sr c0), some (sr c1), none, some (sr c3), some (sr c4), some (si c5), some (sr c6), some (si (q2.1 + (1 : Int32))), none, some (si c9), some (si (a.2.1 + (1 : Int32))), none, none, none] ⟨rfl, rfl, rfl, rfl, rfl, rfl, rfl, rfl, rfl, trivial⟩ (hL (q2.1 + (1 : Int32), a.2.1 + (1 : Int32), h6) (okB_some hF)))
theorem lL_words_230 {G : gG} {Q : hQ} {P : (Int32 × Int32) → Prop} {k n : Nat} (c0 : (Option Nat)) (c1 : (Option Nat)) (c5 : Int32) (c6 : (Option Nat)) (c7 : Int32) (h : hp) (hJ : ∀ q : (Int32 × Int32), P q → gV G mL_words 2 Q 341 [none, none, none, none, none, none, some (sr c6), some (si c7), none, none, some (si q.1), some (si q.2), none, none] [] (k) (n) h) : ∀ (fu : Nat) (a : (Int32 × Int32 × Int32)), okB (itr (fL_words_B230 c0 c1 c5 c6 c7 h) fu a) P → gV G mL_words 2 Q 230 [some (sr c0), some (sr c1), none, none, none, some (si c5), some (sr c6), some (si c7), none, none, some (si a.1), some (si a.2.1), some (si a.2.2), none] [] (k) (n) h :=
  lpg (X := fun (a : (Int32 × Int32 × Int32)) => gV G mL_words 2 Q 230 [some (sr c0), some (sr c1), none, none, none, some (si c5), some (sr c6), some (si c7), none, none, some (si a.1), some (si a.2.1), some (si a.2.2), none] [] (k) (n) h) (fun a P2 hL hE hF => by
    delta fL_words_B230 at hF
    refine v_iload (pc := 230) (i := 12) dL_words_230 rfl ?_
    refine v_aload_n (pc := 232) (i := 0) dL_words_232 rfl rfl ?_
    refine v_iconst (pc := 233) (v := (0 : Int32)) dL_words_233 rfl ?_
    refine s_iald (pc := 234) dL_words_234 hF (fun x1 hF => ?_)
    refine v_icmp_ge (pc := 235) 341 dL_words_235 rfl (fun hc => ?_) (fun hc => ?_)
    · replace hF := (okB_if hF).1 hc
      exact v_lle [none, none, none, none, none, none, some (sr c6), some (si c7), none, none, some (si a.1), some (si a.2.1), none, none] ⟨rfl, rfl, rfl, rfl, trivial⟩ (hJ (a.1, a.2.1) (hE _ (okB_some hF)))
    replace hF := (okB_if hF).2 hc
    refine v_aload_n (pc := 238) (i := 1) dL_words_238 rfl rfl ?_
    refine v_iload (pc := 239) (i := 12) dL_words_239 rfl ?_
    refine cp_S (pc := 241) gI (as := [sr c1, si a.2.2]) (st := []) (N := mL_isThere) (k := k) (n := n) (k1 := 0) (n1 := 0) dL_words_241 lkL_7 caL_isThere csL_isThere rfl (fun Q1 hq => tL_isThere c1 a.2.2 h Q1 hq) ⟨by decide, by decide⟩ (Nat.le_of_ble_eq_true rfl) rfl hF (fun x2 hF => ?_)
    show gV G mL_words 2 Q 244 [some (sr c0), some (sr c1), none, none, none, some (si c5), some (sr c6), some (si c7), none, none, some (si a.1), some (si a.2.1), some (si a.2.2), none] [si x2] (k) (n) h
    refine mg (X := fun q3 => gV G mL_words 2 Q 282 [some (sr c0), some (sr c1), none, none, none, some (si c5), some (sr c6), some (si c7), none, none, some (si a.1), some (si a.2.1), some (si a.2.2), none] [si q3] (k) (n) h) hF (fun _ hj4 hF => ?_) (fun q3 hF => ?_)
    · refine v_if_eq (pc := 244) 281 dL_words_244 rfl (fun hc => ?_) (fun hc => ?_)
      · replace hF := (okB_if hF).1 hc
        refine v_iconst (pc := 281) (v := (0 : Int32)) dL_words_281 rfl ?_
        exact v_lle [some (sr c0), some (sr c1), none, none, none, some (si c5), some (sr c6), some (si c7), none, none, some (si a.1), some (si a.2.1), some (si a.2.2), none] ⟨rfl, rfl, rfl, rfl, rfl, rfl, rfl, rfl, trivial⟩ (hj4 (0 : Int32) (okB_some hF))
      replace hF := (okB_if hF).2 hc
      refine v_aload_n (pc := 247) (i := 1) dL_words_247 rfl rfl ?_
      refine v_iload (pc := 248) (i := 12) dL_words_248 rfl ?_
      refine cp_S (pc := 250) gI (as := [sr c1, si a.2.2]) (st := []) (N := mL_isHidden) (k := k) (n := n) (k1 := 0) (n1 := 0) dL_words_250 lkL_13 caL_isHidden csL_isHidden rfl (fun Q1 hq => tL_isHidden c1 a.2.2 h Q1 hq) ⟨by decide, by decide⟩ (Nat.le_of_ble_eq_true rfl) rfl hF (fun x5 hF => ?_)
      show gV G mL_words 2 Q 253 [some (sr c0), some (sr c1), none, none, none, some (si c5), some (sr c6), some (si c7), none, none, some (si a.1), some (si a.2.1), some (si a.2.2), none] [si x5] (k) (n) h
      refine v_if_ne (pc := 253) 281 dL_words_253 rfl (fun hc => ?_) (fun hc => ?_)
      · replace hF := (okB_if hF).2 hc
        refine v_iconst (pc := 281) (v := (0 : Int32)) dL_words_281 rfl ?_
        exact v_lle [some (sr c0), some (sr c1), none, none, none, some (si c5), some (sr c6), some (si c7), none, none, some (si a.1), some (si a.2.1), some (si a.2.2), none] ⟨rfl, rfl, rfl, rfl, rfl, rfl, rfl, rfl, trivial⟩ (hj4 (0 : Int32) (okB_some hF))
      replace hF := (okB_if hF).1 hc
      refine v_aload_n (pc := 256) (i := 1) dL_words_256 rfl rfl ?_
      refine v_bipush (pc := 257) (v := (6 : Int32)) dL_words_257 rfl ?_
      refine v_iload (pc := 259) (i := 12) dL_words_259 rfl ?_
      refine v_imul (pc := 261) dL_words_261 ?_
      refine v_iconst (pc := 262) (v := (1 : Int32)) dL_words_262 rfl ?_
      refine v_iadd (pc := 263) dL_words_263 ?_
      refine s_iald (pc := 264) dL_words_264 hF (fun x6 hF => ?_)
      refine v_aload_n (pc := 265) (i := 1) dL_words_265 rfl rfl ?_
      refine v_bipush (pc := 266) (v := (6 : Int32)) dL_words_266 rfl ?_
      refine v_iload (pc := 268) (i := 5) dL_words_268 rfl ?_
      refine v_imul (pc := 270) dL_words_270 ?_
      refine v_iconst (pc := 271) (v := (1 : Int32)) dL_words_271 rfl ?_
      refine v_iadd (pc := 272) dL_words_272 ?_
      refine s_iald (pc := 273) dL_words_273 hF (fun x7 hF => ?_)
      refine v_icmp_ne (pc := 274) 281 dL_words_274 rfl (fun hc => ?_) (fun hc => ?_)
      · replace hF := (okB_if hF).2 hc
        refine v_iconst (pc := 281) (v := (0 : Int32)) dL_words_281 rfl ?_
        exact v_lle [some (sr c0), some (sr c1), none, none, none, some (si c5), some (sr c6), some (si c7), none, none, some (si a.1), some (si a.2.1), some (si a.2.2), none] ⟨rfl, rfl, rfl, rfl, rfl, rfl, rfl, rfl, trivial⟩ (hj4 (0 : Int32) (okB_some hF))
      replace hF := (okB_if hF).1 hc
      refine v_iconst (pc := 277) (v := (1 : Int32)) dL_words_277 rfl ?_
      refine v_goto (pc := 278) 282 dL_words_278 rfl ?_
      exact v_lle [some (sr c0), some (sr c1), none, none, none, some (si c5), some (sr c6), some (si c7), none, none, some (si a.1), some (si a.2.1), some (si a.2.2), none] ⟨rfl, rfl, rfl, rfl, rfl, rfl, rfl, rfl, trivial⟩ (hj4 (1 : Int32) (okB_some hF))
    refine v_istore (pc := 282) (i := 13) [some (sr c0), some (sr c1), none, none, none, some (si c5), some (sr c6), some (si c7), none, none, some (si a.1), some (si a.2.1), some (si a.2.2), some (si q3)] dL_words_282 (by decide) rfl rfl ?_
    refine v_iload (pc := 284) (i := 10) dL_words_284 rfl ?_
    refine v_iload (pc := 286) (i := 13) dL_words_286 rfl ?_
    refine mg (X := fun q8 => gV G mL_words 2 Q 296 [some (sr c0), some (sr c1), none, none, none, some (si c5), some (sr c6), some (si c7), none, none, none, some (si a.2.1), some (si a.2.2), some (si q3)] [si q8, si a.1] (k) (n) h) hF (fun _ hj9 hF => ?_) (fun q8 hF => ?_)
    · refine v_if_eq (pc := 288) 295 dL_words_288 rfl (fun hc => ?_) (fun hc => ?_)
      · replace hF := (okB_if hF).1 hc
        refine v_iconst (pc := 295) (v := (0 : Int32)) dL_words_295 rfl ?_
        exact v_lle [some (sr c0), some (sr c1), none, none, none, some (si c5), some (sr c6), some (si c7), none, none, none, some (si a.2.1), some (si a.2.2), some (si q3)] ⟨rfl, rfl, rfl, rfl, rfl, rfl, rfl, rfl, trivial⟩ (hj9 (0 : Int32) (okB_some hF))
      replace hF := (okB_if hF).2 hc
      refine v_iconst (pc := 291) (v := (1 : Int32)) dL_words_291 rfl ?_
      refine v_goto (pc := 292) 296 dL_words_292 rfl ?_
      exact v_lle [some (sr c0), some (sr c1), none, none, none, some (si c5), some (sr c6), some (si c7), none, none, none, some (si a.2.1), some (si a.2.2), some (si q3)] ⟨rfl, rfl, rfl, rfl, rfl, rfl, rfl, rfl, trivial⟩ (hj9 (1 : Int32) (okB_some hF))
    refine v_iadd (pc := 296) dL_words_296 ?_
    refine v_istore (pc := 297) (i := 10) [some (sr c0), some (sr c1), none, none, none, some (si c5), some (sr c6), some (si c7), none, none, some (si (a.1 + q8)), some (si a.2.1), some (si a.2.2), some (si q3)] dL_words_297 (by decide) rfl rfl ?_
    refine v_iload (pc := 299) (i := 11) dL_words_299 rfl ?_
    refine v_iload (pc := 301) (i := 13) dL_words_301 rfl ?_
    refine v_if_eq (pc := 303) 331 dL_words_303 rfl (fun hc => ?_) (fun hc => ?_)
    · replace hF := (okB_if hF).1 hc
      refine v_iconst (pc := 331) (v := (0 : Int32)) dL_words_331 rfl ?_
      refine v_iadd (pc := 332) dL_words_332 ?_
      refine v_istore (pc := 333) (i := 11) [some (sr c0), some (sr c1), none, none, none, some (si c5), some (sr c6), some (si c7), none, none, some (si (a.1 + q8)), some (si (a.2.1 + (0 : Int32))), some (si a.2.2), some (si q3)] dL_words_333 (by decide) rfl rfl ?_
      refine v_iinc (pc := 335) (i := 12) (a.2.2 + (1 : Int32)) [some (sr c0), some (sr c1), none, none, none, some (si c5), some (sr c6), some (si c7), none, none, some (si (a.1 + q8)), some (si (a.2.1 + (0 : Int32))), some (si (a.2.2 + (1 : Int32))), some (si q3)] dL_words_335 rfl rfl rfl rfl ?_
      refine v_goto (pc := 338) 230 dL_words_338 rfl ?_
      exact v_lle [some (sr c0), some (sr c1), none, none, none, some (si c5), some (sr c6), some (si c7), none, none, some (si (a.1 + q8)), some (si (a.2.1 + (0 : Int32))), some (si (a.2.2 + (1 : Int32))), none] ⟨rfl, rfl, rfl, rfl, rfl, rfl, rfl, rfl, trivial⟩ (hL (a.1 + q8, a.2.1 + (0 : Int32), a.2.2 + (1 : Int32)) (okB_some hF))
    replace hF := (okB_if hF).2 hc
    refine v_aload_n (pc := 306) (i := 1) dL_words_306 rfl rfl ?_
    refine v_bipush (pc := 307) (v := (6 : Int32)) dL_words_307 rfl ?_
    refine v_iload (pc := 309) (i := 12) dL_words_309 rfl ?_
    refine v_imul (pc := 311) dL_words_311 ?_
    refine v_iconst (pc := 312) (v := (2 : Int32)) dL_words_312 rfl ?_
    refine v_iadd (pc := 313) dL_words_313 ?_
    refine s_iald (pc := 314) dL_words_314 hF (fun x10 hF => ?_)
    refine v_aload_n (pc := 315) (i := 1) dL_words_315 rfl rfl ?_
    refine v_bipush (pc := 316) (v := (6 : Int32)) dL_words_316 rfl ?_
    refine v_iload (pc := 318) (i := 5) dL_words_318 rfl ?_
    refine v_imul (pc := 320) dL_words_320 ?_
    refine v_iconst (pc := 321) (v := (2 : Int32)) dL_words_321 rfl ?_
    refine v_iadd (pc := 322) dL_words_322 ?_
    refine s_iald (pc := 323) dL_words_323 hF (fun x11 hF => ?_)
    refine v_icmp_gt (pc := 324) 331 dL_words_324 rfl (fun hc => ?_) (fun hc => ?_)
    · replace hF := (okB_if hF).1 hc
      refine v_iconst (pc := 331) (v := (0 : Int32)) dL_words_331 rfl ?_
      refine v_iadd (pc := 332) dL_words_332 ?_
      refine v_istore (pc := 333) (i := 11) [some (sr c0), some (sr c1), none, none, none, some (si c5), some (sr c6), some (si c7), none, none, some (si (a.1 + q8)), some (si (a.2.1 + (0 : Int32))), some (si a.2.2), some (si q3)] dL_words_333 (by decide) rfl rfl ?_
      refine v_iinc (pc := 335) (i := 12) (a.2.2 + (1 : Int32)) [some (sr c0), some (sr c1), none, none, none, some (si c5), some (sr c6), some (si c7), none, none, some (si (a.1 + q8)), some (si (a.2.1 + (0 : Int32))), some (si (a.2.2 + (1 : Int32))), some (si q3)] dL_words_335 rfl rfl rfl rfl ?_
      refine v_goto (pc := 338) 230 dL_words_338 rfl ?_
      exact v_lle [some (sr c0), some (sr c1), none, none, none, some (si c5), some (sr c6), some (si c7), none, none, some (si (a.1 + q8)), some (si (a.2.1 + (0 : Int32))), some (si (a.2.2 + (1 : Int32))), none] ⟨rfl, rfl, rfl, rfl, rfl, rfl, rfl, rfl, trivial⟩ (hL (a.1 + q8, a.2.1 + (0 : Int32), a.2.2 + (1 : Int32)) (okB_some hF))
    replace hF := (okB_if hF).2 hc
    refine v_iconst (pc := 327) (v := (1 : Int32)) dL_words_327 rfl ?_
    refine v_goto (pc := 328) 332 dL_words_328 rfl ?_
    refine v_iadd (pc := 332) dL_words_332 ?_
    refine v_istore (pc := 333) (i := 11) [some (sr c0), some (sr c1), none, none, none, some (si c5), some (sr c6), some (si c7), none, none, some (si (a.1 + q8)), some (si (a.2.1 + (1 : Int32))), some (si a.2.2), some (si q3)] dL_words_333 (by decide) rfl rfl ?_
    refine v_iinc (pc := 335) (i := 12) (a.2.2 + (1 : Int32)) [some (sr c0), some (sr c1), none, none, none, some (si c5), some (sr c6), some (si c7), none, none, some (si (a.1 + q8)), some (si (a.2.1 + (1 : Int32))), some (si (a.2.2 + (1 : Int32))), some (si q3)] dL_words_335 rfl rfl rfl rfl ?_
    refine v_goto (pc := 338) 230 dL_words_338 rfl ?_
    exact v_lle [some (sr c0), some (sr c1), none, none, none, some (si c5), some (sr c6), some (si c7), none, none, some (si (a.1 + q8)), some (si (a.2.1 + (1 : Int32))), some (si (a.2.2 + (1 : Int32))), none] ⟨rfl, rfl, rfl, rfl, rfl, rfl, rfl, rfl, trivial⟩ (hL (a.1 + q8, a.2.1 + (1 : Int32), a.2.2 + (1 : Int32)) (okB_some hF)))
theorem tL_words {G : gG} (a0 : (Option Nat)) (a1 : (Option Nat)) (a2 : (Option Nat)) (a3 : (Option Nat)) (a4 : (Option Nat)) (a5 : Int32) (a6 : (Option Nat)) (h : hp) (Q : hQ) (hF : okB (fL_words a0 a1 a2 a3 a4 a5 a6 h) (pH gI Q)) : gS G mL_words 2 0 0 [sr a0, sr a1, sr a2, sr a3, sr a4, si a5, sr a6] h Q := by
  delta fL_words at hF
  refine gS_at [some (sr a0), some (sr a1), some (sr a2), some (sr a3), some (sr a4), some (si a5), some (sr a6), none, none, none, none, none, none, none] pl_L rfl (Nat.le_of_ble_eq_true rfl) rfl ?_
  refine v_iconst (pc := 0) (v := (0 : Int32)) dL_words_0 rfl ?_
  refine v_istore (pc := 1) (i := 7) [some (sr a0), some (sr a1), some (sr a2), some (sr a3), some (sr a4), some (si a5), some (sr a6), some (si (0 : Int32)), none, none, none, none, none, none] dL_words_1 (by decide) rfl rfl ?_
  refine v_aload_n (pc := 3) (i := 1) dL_words_3 rfl rfl ?_
  refine v_bipush (pc := 4) (v := (6 : Int32)) dL_words_4 rfl ?_
  refine v_iload (pc := 6) (i := 5) dL_words_6 rfl ?_
  refine v_imul (pc := 8) dL_words_8 ?_
  refine s_iald (pc := 9) dL_words_9 hF (fun x1 hF => ?_)
  refine v_istore (pc := 10) (i := 8) [some (sr a0), some (sr a1), some (sr a2), some (sr a3), some (sr a4), some (si a5), some (sr a6), some (si (0 : Int32)), some (si x1), none, none, none, none, none] dL_words_10 (by decide) rfl rfl ?_
  refine v_aload_n (pc := 12) (i := 1) dL_words_12 rfl rfl ?_
  refine v_iload (pc := 13) (i := 5) dL_words_13 rfl ?_
  refine cp_S (pc := 15) gI (as := [sr a1, si a5]) (st := []) (N := mL_level) (k := 0) (n := 0) (k1 := 0) (n1 := 0) dL_words_15 lkL_30 caL_level csL_level rfl (fun Q1 hq => tL_level a1 a5 h Q1 hq) ⟨by decide, by decide⟩ (Nat.le_of_ble_eq_true rfl) rfl hF (fun x2 hF => ?_)
  show gV G mL_words 2 Q 18 [some (sr a0), some (sr a1), some (sr a2), some (sr a3), some (sr a4), some (si a5), some (sr a6), some (si (0 : Int32)), some (si x1), none, none, none, none, none] [si x2] (0) (0) h
  refine v_istore (pc := 18) (i := 9) [some (sr a0), some (sr a1), some (sr a2), some (sr a3), some (sr a4), some (si a5), some (sr a6), some (si (0 : Int32)), some (si x1), some (si x2), none, none, none, none] dL_words_18 (by decide) rfl rfl ?_
  refine v_iconst (pc := 20) (v := (0 : Int32)) dL_words_20 rfl ?_
  refine v_istore (pc := 21) (i := 10) [some (sr a0), some (sr a1), some (sr a2), some (sr a3), some (sr a4), some (si a5), some (sr a6), some (si (0 : Int32)), some (si x1), some (si x2), some (si (0 : Int32)), none, none, none] dL_words_21 (by decide) rfl rfl ?_
  refine mg (X := fun q3 => gV G mL_words 2 Q 64 [some (sr a0), some (sr a1), none, some (sr a3), some (sr a4), some (si a5), some (sr a6), some (si q3.1), some (si x1), some (si x2), none, none, none, none] [] (0) (0) q3.2) hF (fun _ hj35 hF => v_lle [some (sr a0), some (sr a1), some (sr a2), some (sr a3), some (sr a4), some (si a5), some (sr a6), some (si (0 : Int32)), some (si x1), some (si x2), some (si (0 : Int32)), none, none, none] ⟨rfl, rfl, rfl, rfl, rfl, rfl, rfl, rfl, rfl, rfl, rfl, trivial⟩ (lL_words_23 a0 a1 a2 a3 a4 a5 a6 x1 x2 hj35 FU ((0 : Int32), (0 : Int32), h) hF)) (fun q3 hF => ?_)
  refine v_iload (pc := 64) (i := 9) dL_words_64 rfl ?_
  refine mg (X := fun q4 => gV G mL_words 2 Q 88 [some (sr a0), some (sr a1), none, some (sr a3), some (sr a4), some (si a5), some (sr a6), none, some (si x1), some (si x2), none, none, none, none] [si q4.1] (0) (0) q4.2) hF (fun _ hj5 hF => ?_) (fun q4 hF => ?_)
  · refine v_if_gt (pc := 66) 74 dL_words_66 rfl (fun hc => ?_) (fun hc => ?_)
    · replace hF := (okB_if hF).1 hc
      refine v_aload (pc := 74) (i := 6) dL_words_74 rfl ?_
      refine v_iload (pc := 76) (i := 7) dL_words_76 rfl ?_
      refine v_iload (pc := 78) (i := 8) dL_words_78 rfl ?_
      refine ch_S (pc := 80) gI (as := [sr a6, si q3.1, si x1]) (st := []) (N := mL_saysKind) (k := 0) (n := 0) (k1 := 0) (n1 := 0) dL_words_80 lkL_40 caL_saysKind csL_saysKind rfl (fun Q1 hq => tL_saysKind a6 q3.1 x1 q3.2 Q1 hq) ⟨by decide, by decide⟩ (Nat.le_of_ble_eq_true rfl) rfl hF (fun x6 h7 hF => ?_)
      show gV G mL_words 2 Q 83 [some (sr a0), some (sr a1), none, some (sr a3), some (sr a4), some (si a5), some (sr a6), some (si q3.1), some (si x1), some (si x2), none, none, none, none] [si x6] (0) (0) h7
      refine v_goto (pc := 83) 88 dL_words_83 rfl ?_
      exact v_lle [some (sr a0), some (sr a1), none, some (sr a3), some (sr a4), some (si a5), some (sr a6), none, some (si x1), some (si x2), none, none, none, none] ⟨rfl, rfl, rfl, rfl, rfl, rfl, rfl, rfl, trivial⟩ (hj5 (x6, h7) (okB_some hF))
    replace hF := (okB_if hF).2 hc
    refine v_iload (pc := 69) (i := 7) dL_words_69 rfl ?_
    refine v_if_ne (pc := 71) 86 dL_words_71 rfl (fun hc => ?_) (fun hc => ?_)
    · replace hF := (okB_if hF).2 hc
      refine v_iload (pc := 86) (i := 7) dL_words_86 rfl ?_
      exact v_lle [some (sr a0), some (sr a1), none, some (sr a3), some (sr a4), some (si a5), some (sr a6), none, some (si x1), some (si x2), none, none, none, none] ⟨rfl, rfl, rfl, rfl, rfl, rfl, rfl, rfl, trivial⟩ (hj5 (q3.1, q3.2) (okB_some hF))
    replace hF := (okB_if hF).1 hc
    refine v_aload (pc := 74) (i := 6) dL_words_74 rfl ?_
    refine v_iload (pc := 76) (i := 7) dL_words_76 rfl ?_
    refine v_iload (pc := 78) (i := 8) dL_words_78 rfl ?_
    refine ch_S (pc := 80) gI (as := [sr a6, si q3.1, si x1]) (st := []) (N := mL_saysKind) (k := 0) (n := 0) (k1 := 0) (n1 := 0) dL_words_80 lkL_40 caL_saysKind csL_saysKind rfl (fun Q1 hq => tL_saysKind a6 q3.1 x1 q3.2 Q1 hq) ⟨by decide, by decide⟩ (Nat.le_of_ble_eq_true rfl) rfl hF (fun x8 h9 hF => ?_)
    show gV G mL_words 2 Q 83 [some (sr a0), some (sr a1), none, some (sr a3), some (sr a4), some (si a5), some (sr a6), some (si q3.1), some (si x1), some (si x2), none, none, none, none] [si x8] (0) (0) h9
    refine v_goto (pc := 83) 88 dL_words_83 rfl ?_
    exact v_lle [some (sr a0), some (sr a1), none, some (sr a3), some (sr a4), some (si a5), some (sr a6), none, some (si x1), some (si x2), none, none, none, none] ⟨rfl, rfl, rfl, rfl, rfl, rfl, rfl, rfl, trivial⟩ (hj5 (x8, h9) (okB_some hF))
  refine v_istore (pc := 88) (i := 7) [some (sr a0), some (sr a1), none, some (sr a3), some (sr a4), some (si a5), some (sr a6), some (si q4.1), some (si x1), some (si x2), none, none, none, none] dL_words_88 (by decide) rfl rfl ?_
  refine v_iload (pc := 90) (i := 8) dL_words_90 rfl ?_
  refine v_iconst (pc := 92) (v := (3 : Int32)) dL_words_92 rfl ?_
  refine mg (X := fun q10 => gV G mL_words 2 Q 155 [some (sr a0), some (sr a1), none, some (sr a3), some (sr a4), some (si a5), some (sr a6), some (si q10.1), none, some (si x2), none, none, none, none] [] (0) (0) q10.2) hF (fun _ hj11 hF => ?_) (fun q10 hF => ?_)
  · refine v_icmp_ne (pc := 93) 155 dL_words_93 rfl (fun hc => ?_) (fun hc => ?_)
    · replace hF := (okB_if hF).2 hc
      exact v_lle [some (sr a0), some (sr a1), none, some (sr a3), some (sr a4), some (si a5), some (sr a6), some (si q4.1), none, some (si x2), none, none, none, none] ⟨rfl, rfl, rfl, rfl, rfl, rfl, rfl, rfl, trivial⟩ (hj11 (q4.1, q4.2) (okB_some hF))
    replace hF := (okB_if hF).1 hc
    refine v_aload_n (pc := 96) (i := 1) dL_words_96 rfl rfl ?_
    refine v_bipush (pc := 97) (v := (6 : Int32)) dL_words_97 rfl ?_
    refine v_iload (pc := 99) (i := 5) dL_words_99 rfl ?_
    refine v_imul (pc := 101) dL_words_101 ?_
    refine v_iconst (pc := 102) (v := (3 : Int32)) dL_words_102 rfl ?_
    refine v_iadd (pc := 103) dL_words_103 ?_
    refine s_iald (pc := 104) dL_words_104 hF (fun x12 hF => ?_)
    refine v_iconst (pc := 105) (v := (4 : Int32)) dL_words_105 rfl ?_
    refine v_iand (pc := 106) dL_words_106 ?_
    refine v_iconst (pc := 107) (v := (4 : Int32)) dL_words_107 rfl ?_
    refine mg (X := fun q13 => gV G mL_words 2 Q 116 [some (sr a0), some (sr a1), none, some (sr a3), some (sr a4), some (si a5), some (sr a6), some (si q4.1), none, some (si x2), none, none, none, none] [si q13] (0) (0) q4.2) hF (fun _ hj14 hF => ?_) (fun q13 hF => ?_)
    · refine v_icmp_ne (pc := 108) 115 dL_words_108 rfl (fun hc => ?_) (fun hc => ?_)
      · replace hF := (okB_if hF).2 hc
        refine v_iconst (pc := 115) (v := (0 : Int32)) dL_words_115 rfl ?_
        exact v_lle [some (sr a0), some (sr a1), none, some (sr a3), some (sr a4), some (si a5), some (sr a6), some (si q4.1), none, some (si x2), none, none, none, none] ⟨rfl, rfl, rfl, rfl, rfl, rfl, rfl, rfl, trivial⟩ (hj14 (0 : Int32) (okB_some hF))
      replace hF := (okB_if hF).1 hc
      refine v_iconst (pc := 111) (v := (1 : Int32)) dL_words_111 rfl ?_
      refine v_goto (pc := 112) 116 dL_words_112 rfl ?_
      exact v_lle [some (sr a0), some (sr a1), none, some (sr a3), some (sr a4), some (si a5), some (sr a6), some (si q4.1), none, some (si x2), none, none, none, none] ⟨rfl, rfl, rfl, rfl, rfl, rfl, rfl, rfl, trivial⟩ (hj14 (1 : Int32) (okB_some hF))
    refine v_istore (pc := 116) (i := 10) [some (sr a0), some (sr a1), none, some (sr a3), some (sr a4), some (si a5), some (sr a6), some (si q4.1), none, some (si x2), some (si q13), none, none, none] dL_words_116 (by decide) rfl rfl ?_
    refine v_aload (pc := 118) (i := 6) dL_words_118 rfl ?_
    refine v_iload (pc := 120) (i := 7) dL_words_120 rfl ?_
    refine v_bipush (pc := 122) (v := (111 : Int32)) dL_words_122 rfl ?_
    refine v_iload (pc := 124) (i := 10) dL_words_124 rfl ?_
    refine mg (X := fun q15 => gV G mL_words 2 Q 136 [some (sr a0), some (sr a1), none, some (sr a3), some (sr a4), some (si a5), some (sr a6), none, none, some (si x2), some (si q13), none, none, none] [si q15, si (111 : Int32), si q4.1, sr a6] (0) (0) q4.2) hF (fun _ hj16 hF => ?_) (fun q15 hF => ?_)
    · refine v_if_eq (pc := 126) 134 dL_words_126 rfl (fun hc => ?_) (fun hc => ?_)
      · replace hF := (okB_if hF).1 hc
        refine v_bipush (pc := 134) (v := (102 : Int32)) dL_words_134 rfl ?_
        exact v_lle [some (sr a0), some (sr a1), none, some (sr a3), some (sr a4), some (si a5), some (sr a6), none, none, some (si x2), some (si q13), none, none, none] ⟨rfl, rfl, rfl, rfl, rfl, rfl, rfl, rfl, trivial⟩ (hj16 (102 : Int32) (okB_some hF))
      replace hF := (okB_if hF).2 hc
      refine v_bipush (pc := 129) (v := (110 : Int32)) dL_words_129 rfl ?_
      refine v_goto (pc := 131) 136 dL_words_131 rfl ?_
      exact v_lle [some (sr a0), some (sr a1), none, some (sr a3), some (sr a4), some (si a5), some (sr a6), none, none, some (si x2), some (si q13), none, none, none] ⟨rfl, rfl, rfl, rfl, rfl, rfl, rfl, rfl, trivial⟩ (hj16 (110 : Int32) (okB_some hF))
    refine v_iload (pc := 136) (i := 10) dL_words_136 rfl ?_
    refine mg (X := fun q17 => gV G mL_words 2 Q 147 [some (sr a0), some (sr a1), none, some (sr a3), some (sr a4), some (si a5), some (sr a6), none, none, some (si x2), none, none, none, none] [si q17, si q15, si (111 : Int32), si q4.1, sr a6] (0) (0) q4.2) hF (fun _ hj18 hF => ?_) (fun q17 hF => ?_)
    · refine v_if_eq (pc := 138) 145 dL_words_138 rfl (fun hc => ?_) (fun hc => ?_)
      · replace hF := (okB_if hF).1 hc
        refine v_bipush (pc := 145) (v := (102 : Int32)) dL_words_145 rfl ?_
        exact v_lle [some (sr a0), some (sr a1), none, some (sr a3), some (sr a4), some (si a5), some (sr a6), none, none, some (si x2), none, none, none, none] ⟨rfl, rfl, rfl, rfl, rfl, rfl, rfl, trivial⟩ (hj18 (102 : Int32) (okB_some hF))
      replace hF := (okB_if hF).2 hc
      refine v_iconst (pc := 141) (v := (0 : Int32)) dL_words_141 rfl ?_
      refine v_goto (pc := 142) 147 dL_words_142 rfl ?_
      exact v_lle [some (sr a0), some (sr a1), none, some (sr a3), some (sr a4), some (si a5), some (sr a6), none, none, some (si x2), none, none, none, none] ⟨rfl, rfl, rfl, rfl, rfl, rfl, rfl, trivial⟩ (hj18 (0 : Int32) (okB_some hF))
    refine v_iconst (pc := 147) (v := (0 : Int32)) dL_words_147 rfl ?_
    refine v_iconst (pc := 148) (v := (0 : Int32)) dL_words_148 rfl ?_
    refine v_iconst (pc := 149) (v := (0 : Int32)) dL_words_149 rfl ?_
    refine ch_S (pc := 150) gI (as := [sr a6, si q4.1, si (111 : Int32), si q15, si q17, si (0 : Int32), si (0 : Int32), si (0 : Int32)]) (st := []) (N := mL_says) (k := 0) (n := 0) (k1 := 0) (n1 := 0) dL_words_150 lkL_20 caL_says csL_says rfl (fun Q1 hq => tL_says a6 q4.1 (111 : Int32) q15 q17 (0 : Int32) (0 : Int32) (0 : Int32) q4.2 Q1 hq) ⟨by decide, by decide⟩ (Nat.le_of_ble_eq_true rfl) rfl hF (fun x19 h20 hF => ?_)
    show gV G mL_words 2 Q 153 [some (sr a0), some (sr a1), none, some (sr a3), some (sr a4), some (si a5), some (sr a6), none, none, some (si x2), none, none, none, none] [si x19] (0) (0) h20
    refine v_istore (pc := 153) (i := 7) [some (sr a0), some (sr a1), none, some (sr a3), some (sr a4), some (si a5), some (sr a6), some (si x19), none, some (si x2), none, none, none, none] dL_words_153 (by decide) rfl rfl ?_
    exact v_lle [some (sr a0), some (sr a1), none, some (sr a3), some (sr a4), some (si a5), some (sr a6), some (si x19), none, some (si x2), none, none, none, none] ⟨rfl, rfl, rfl, rfl, rfl, rfl, rfl, rfl, trivial⟩ (hj11 (x19, h20) (okB_some hF))
  refine v_iconst (pc := 155) (v := (0 : Int32)) dL_words_155 rfl ?_
  refine v_istore (pc := 156) (i := 10) [some (sr a0), some (sr a1), none, some (sr a3), some (sr a4), some (si a5), some (sr a6), some (si q10.1), none, some (si x2), some (si (0 : Int32)), none, none, none] dL_words_156 (by decide) rfl rfl ?_
  refine mg (X := fun q21 => gV G mL_words 2 Q 210 [some (sr a0), some (sr a1), none, none, none, some (si a5), some (sr a6), some (si q21.1), none, some (si x2), none, none, none, none] [] (0) (0) q21.2) hF (fun _ hj34 hF => v_lle [some (sr a0), some (sr a1), none, some (sr a3), some (sr a4), some (si a5), some (sr a6), some (si q10.1), none, some (si x2), some (si (0 : Int32)), none, none, none] ⟨rfl, rfl, rfl, rfl, rfl, rfl, rfl, rfl, rfl, trivial⟩ (lL_words_158 a0 a1 a3 a4 a5 a6 x2 hj34 FU (q10.1, (0 : Int32), q10.2) hF)) (fun q21 hF => ?_)
  refine v_iload (pc := 210) (i := 9) dL_words_210 rfl ?_
  refine v_iconst (pc := 212) (v := (2 : Int32)) dL_words_212 rfl ?_
  refine v_icmp_ne (pc := 213) 438 dL_words_213 rfl (fun hc => ?_) (fun hc => ?_)
  · replace hF := (okB_if hF).2 hc
    refine v_iload (pc := 438) (i := 7) dL_words_438 rfl ?_
    exact v_iret (pc := 440) dL_words_440 rfl rfl (okr hF fun q => q)
  replace hF := (okB_if hF).1 hc
  refine v_iload (pc := 216) (i := 5) dL_words_216 rfl ?_
  refine v_if_le (pc := 218) 438 dL_words_218 rfl (fun hc => ?_) (fun hc => ?_)
  · replace hF := (okB_if hF).1 hc
    refine v_iload (pc := 438) (i := 7) dL_words_438 rfl ?_
    exact v_iret (pc := 440) dL_words_440 rfl rfl (okr hF fun q => q)
  replace hF := (okB_if hF).2 hc
  refine v_iconst (pc := 221) (v := (0 : Int32)) dL_words_221 rfl ?_
  refine v_istore (pc := 222) (i := 10) [some (sr a0), some (sr a1), none, none, none, some (si a5), some (sr a6), some (si q21.1), none, some (si x2), some (si (0 : Int32)), none, none, none] dL_words_222 (by decide) rfl rfl ?_
  refine v_iconst (pc := 224) (v := (0 : Int32)) dL_words_224 rfl ?_
  refine v_istore (pc := 225) (i := 11) [some (sr a0), some (sr a1), none, none, none, some (si a5), some (sr a6), some (si q21.1), none, some (si x2), some (si (0 : Int32)), some (si (0 : Int32)), none, none] dL_words_225 (by decide) rfl rfl ?_
  refine v_iconst (pc := 227) (v := (0 : Int32)) dL_words_227 rfl ?_
  refine v_istore (pc := 228) (i := 12) [some (sr a0), some (sr a1), none, none, none, some (si a5), some (sr a6), some (si q21.1), none, some (si x2), some (si (0 : Int32)), some (si (0 : Int32)), some (si (0 : Int32)), none] dL_words_228 (by decide) rfl rfl ?_
  refine mg (X := fun q22 => gV G mL_words 2 Q 341 [none, none, none, none, none, none, some (sr a6), some (si q21.1), none, none, some (si q22.1), some (si q22.2), none, none] [] (0) (0) q21.2) hF (fun _ hj33 hF => v_lle [some (sr a0), some (sr a1), none, none, none, some (si a5), some (sr a6), some (si q21.1), none, none, some (si (0 : Int32)), some (si (0 : Int32)), some (si (0 : Int32)), none] ⟨rfl, rfl, rfl, rfl, rfl, rfl, rfl, rfl, trivial⟩ (lL_words_230 a0 a1 a5 a6 q21.1 q21.2 hj33 FU ((0 : Int32), (0 : Int32), (0 : Int32)) hF)) (fun q22 hF => ?_)
  refine v_aload (pc := 341) (i := 6) dL_words_341 rfl ?_
  refine v_iload (pc := 343) (i := 7) dL_words_343 rfl ?_
  refine v_iload (pc := 345) (i := 11) dL_words_345 rfl ?_
  refine v_bipush (pc := 347) (v := (9 : Int32)) dL_words_347 rfl ?_
  refine mg (X := fun q23 => gV G mL_words 2 Q 364 [none, none, none, none, none, none, some (sr a6), none, none, none, some (si q22.1), some (si q22.2), none, none] [si q23, si q21.1, sr a6] (0) (0) q21.2) hF (fun _ hj24 hF => ?_) (fun q23 hF => ?_)
  · refine v_icmp_le (pc := 349) 363 dL_words_349 rfl (fun hc => ?_) (fun hc => ?_)
    · replace hF := (okB_if hF).1 hc
      refine v_iconst (pc := 363) (v := (0 : Int32)) dL_words_363 rfl ?_
      exact v_lle [none, none, none, none, none, none, some (sr a6), none, none, none, some (si q22.1), some (si q22.2), none, none] ⟨rfl, rfl, rfl, trivial⟩ (hj24 (0 : Int32) (okB_some hF))
    replace hF := (okB_if hF).2 hc
    refine v_bipush (pc := 352) (v := (48 : Int32)) dL_words_352 rfl ?_
    refine v_iload (pc := 354) (i := 11) dL_words_354 rfl ?_
    refine v_bipush (pc := 356) (v := (10 : Int32)) dL_words_356 rfl ?_
    refine s_idiv (pc := 358) dL_words_358 hF (fun hF => ?_)
    refine v_iadd (pc := 359) dL_words_359 ?_
    refine v_goto (pc := 360) 364 dL_words_360 rfl ?_
    exact v_lle [none, none, none, none, none, none, some (sr a6), none, none, none, some (si q22.1), some (si q22.2), none, none] ⟨rfl, rfl, rfl, trivial⟩ (hj24 ((48 : Int32) + (q22.2 / (10 : Int32))) (okB_some hF))
  refine v_bipush (pc := 364) (v := (48 : Int32)) dL_words_364 rfl ?_
  refine v_iload (pc := 366) (i := 11) dL_words_366 rfl ?_
  refine v_bipush (pc := 368) (v := (10 : Int32)) dL_words_368 rfl ?_
  refine s_irem (pc := 370) dL_words_370 hF (fun hF => ?_)
  refine v_iadd (pc := 371) dL_words_371 ?_
  refine v_iconst (pc := 372) (v := (0 : Int32)) dL_words_372 rfl ?_
  refine v_iconst (pc := 373) (v := (0 : Int32)) dL_words_373 rfl ?_
  refine v_iconst (pc := 374) (v := (0 : Int32)) dL_words_374 rfl ?_
  refine v_iconst (pc := 375) (v := (0 : Int32)) dL_words_375 rfl ?_
  refine ch_S (pc := 376) gI (as := [sr a6, si q21.1, si q23, si ((48 : Int32) + (q22.2 - q22.2 / (10 : Int32) * (10 : Int32))), si (0 : Int32), si (0 : Int32), si (0 : Int32), si (0 : Int32)]) (st := []) (N := mL_says) (k := 0) (n := 0) (k1 := 0) (n1 := 0) dL_words_376 lkL_20 caL_says csL_says rfl (fun Q1 hq => tL_says a6 q21.1 q23 ((48 : Int32) + (q22.2 - q22.2 / (10 : Int32) * (10 : Int32))) (0 : Int32) (0 : Int32) (0 : Int32) (0 : Int32) q21.2 Q1 hq) ⟨by decide, by decide⟩ (Nat.le_of_ble_eq_true rfl) rfl hF (fun x25 h26 hF => ?_)
  show gV G mL_words 2 Q 379 [none, none, none, none, none, none, some (sr a6), none, none, none, some (si q22.1), some (si q22.2), none, none] [si x25] (0) (0) h26
  refine v_istore (pc := 379) (i := 7) [none, none, none, none, none, none, some (sr a6), some (si x25), none, none, some (si q22.1), some (si q22.2), none, none] dL_words_379 (by decide) rfl rfl ?_
  refine v_aload (pc := 381) (i := 6) dL_words_381 rfl ?_
  refine v_iload (pc := 383) (i := 7) dL_words_383 rfl ?_
  refine v_bipush (pc := 385) (v := (111 : Int32)) dL_words_385 rfl ?_
  refine v_bipush (pc := 387) (v := (102 : Int32)) dL_words_387 rfl ?_
  refine v_iconst (pc := 389) (v := (0 : Int32)) dL_words_389 rfl ?_
  refine v_iconst (pc := 390) (v := (0 : Int32)) dL_words_390 rfl ?_
  refine v_iconst (pc := 391) (v := (0 : Int32)) dL_words_391 rfl ?_
  refine v_iconst (pc := 392) (v := (0 : Int32)) dL_words_392 rfl ?_
  refine ch_S (pc := 393) gI (as := [sr a6, si x25, si (111 : Int32), si (102 : Int32), si (0 : Int32), si (0 : Int32), si (0 : Int32), si (0 : Int32)]) (st := []) (N := mL_says) (k := 0) (n := 0) (k1 := 0) (n1 := 0) dL_words_393 lkL_20 caL_says csL_says rfl (fun Q1 hq => tL_says a6 x25 (111 : Int32) (102 : Int32) (0 : Int32) (0 : Int32) (0 : Int32) (0 : Int32) h26 Q1 hq) ⟨by decide, by decide⟩ (Nat.le_of_ble_eq_true rfl) rfl hF (fun x27 h28 hF => ?_)
  show gV G mL_words 2 Q 396 [none, none, none, none, none, none, some (sr a6), some (si x25), none, none, some (si q22.1), some (si q22.2), none, none] [si x27] (0) (0) h28
  refine v_istore (pc := 396) (i := 7) [none, none, none, none, none, none, some (sr a6), some (si x27), none, none, some (si q22.1), some (si q22.2), none, none] dL_words_396 (by decide) rfl rfl ?_
  refine v_aload (pc := 398) (i := 6) dL_words_398 rfl ?_
  refine v_iload (pc := 400) (i := 7) dL_words_400 rfl ?_
  refine v_iload (pc := 402) (i := 10) dL_words_402 rfl ?_
  refine v_bipush (pc := 404) (v := (9 : Int32)) dL_words_404 rfl ?_
  refine mg (X := fun q29 => gV G mL_words 2 Q 421 [none, none, none, none, none, none, none, none, none, none, some (si q22.1), none, none, none] [si q29, si x27, sr a6] (0) (0) h28) hF (fun _ hj30 hF => ?_) (fun q29 hF => ?_)
  · refine v_icmp_le (pc := 406) 420 dL_words_406 rfl (fun hc => ?_) (fun hc => ?_)
    · replace hF := (okB_if hF).1 hc
      refine v_iconst (pc := 420) (v := (0 : Int32)) dL_words_420 rfl ?_
      exact v_lle [none, none, none, none, none, none, none, none, none, none, some (si q22.1), none, none, none] ⟨rfl, trivial⟩ (hj30 (0 : Int32) (okB_some hF))
    replace hF := (okB_if hF).2 hc
    refine v_bipush (pc := 409) (v := (48 : Int32)) dL_words_409 rfl ?_
    refine v_iload (pc := 411) (i := 10) dL_words_411 rfl ?_
    refine v_bipush (pc := 413) (v := (10 : Int32)) dL_words_413 rfl ?_
    refine s_idiv (pc := 415) dL_words_415 hF (fun hF => ?_)
    refine v_iadd (pc := 416) dL_words_416 ?_
    refine v_goto (pc := 417) 421 dL_words_417 rfl ?_
    exact v_lle [none, none, none, none, none, none, none, none, none, none, some (si q22.1), none, none, none] ⟨rfl, trivial⟩ (hj30 ((48 : Int32) + (q22.1 / (10 : Int32))) (okB_some hF))
  refine v_bipush (pc := 421) (v := (48 : Int32)) dL_words_421 rfl ?_
  refine v_iload (pc := 423) (i := 10) dL_words_423 rfl ?_
  refine v_bipush (pc := 425) (v := (10 : Int32)) dL_words_425 rfl ?_
  refine s_irem (pc := 427) dL_words_427 hF (fun hF => ?_)
  refine v_iadd (pc := 428) dL_words_428 ?_
  refine v_iconst (pc := 429) (v := (0 : Int32)) dL_words_429 rfl ?_
  refine v_iconst (pc := 430) (v := (0 : Int32)) dL_words_430 rfl ?_
  refine v_iconst (pc := 431) (v := (0 : Int32)) dL_words_431 rfl ?_
  refine v_iconst (pc := 432) (v := (0 : Int32)) dL_words_432 rfl ?_
  refine ch_S (pc := 433) gI (as := [sr a6, si x27, si q29, si ((48 : Int32) + (q22.1 - q22.1 / (10 : Int32) * (10 : Int32))), si (0 : Int32), si (0 : Int32), si (0 : Int32), si (0 : Int32)]) (st := []) (N := mL_says) (k := 0) (n := 0) (k1 := 0) (n1 := 0) dL_words_433 lkL_20 caL_says csL_says rfl (fun Q1 hq => tL_says a6 x27 q29 ((48 : Int32) + (q22.1 - q22.1 / (10 : Int32) * (10 : Int32))) (0 : Int32) (0 : Int32) (0 : Int32) (0 : Int32) h28 Q1 hq) ⟨by decide, by decide⟩ (Nat.le_of_ble_eq_true rfl) rfl hF (fun x31 h32 hF => ?_)
  show gV G mL_words 2 Q 436 [none, none, none, none, none, none, none, none, none, none, some (si q22.1), none, none, none] [si x31] (0) (0) h32
  refine v_istore (pc := 436) (i := 7) [none, none, none, none, none, none, none, some (si x31), none, none, some (si q22.1), none, none, none] dL_words_436 (by decide) rfl rfl ?_
  refine v_iload (pc := 438) (i := 7) dL_words_438 rfl ?_
  exact v_iret (pc := 440) dL_words_440 rfl rfl (okr hF fun q => q)
