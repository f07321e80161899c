/-! ===== the law's methods that call the desk ===== -/
theorem dL_law_0 : decode cL_law 0 = .ok (.new 105, 3) := by decide +kernel
theorem dL_law_3 : decode cL_law 3 = .ok (.dup, 1) := by decide +kernel
theorem dL_law_4 : decode cL_law 4 = .ok (.invokespecial 226, 3) := by decide +kernel
theorem dL_law_7 : decode cL_law 7 = .ok (.astore_n 1, 1) := by decide +kernel
theorem dL_law_8 : decode cL_law 8 = .ok (.bipush 7, 2) := by decide +kernel
theorem dL_law_10 : decode cL_law 10 = .ok (.newarray .int, 2) := by decide +kernel
theorem dL_law_12 : decode cL_law 12 = .ok (.astore_n 2, 1) := by decide +kernel
theorem dL_law_13 : decode cL_law 13 = .ok (.bipush 60, 2) := by decide +kernel
theorem dL_law_15 : decode cL_law 15 = .ok (.newarray .int, 2) := by decide +kernel
theorem dL_law_17 : decode cL_law 17 = .ok (.astore_n 3, 1) := by decide +kernel
theorem dL_law_18 : decode cL_law 18 = .ok (.bipush 10, 2) := by decide +kernel
theorem dL_law_20 : decode cL_law 20 = .ok (.newarray .long, 2) := by decide +kernel
theorem dL_law_22 : decode cL_law 22 = .ok (.astore 4, 2) := by decide +kernel
theorem dL_law_24 : decode cL_law 24 = .ok (.bipush 20, 2) := by decide +kernel
theorem dL_law_26 : decode cL_law 26 = .ok (.newarray .long, 2) := by decide +kernel
theorem dL_law_28 : decode cL_law 28 = .ok (.astore 5, 2) := by decide +kernel
theorem dL_law_30 : decode cL_law 30 = .ok (.bipush 10, 2) := by decide +kernel
theorem dL_law_32 : decode cL_law 32 = .ok (.newarray .int, 2) := by decide +kernel
theorem dL_law_34 : decode cL_law 34 = .ok (.astore 6, 2) := by decide +kernel
theorem dL_law_36 : decode cL_law 36 = .ok (.bipush 64, 2) := by decide +kernel
theorem dL_law_38 : decode cL_law 38 = .ok (.newarray .int, 2) := by decide +kernel
theorem dL_law_40 : decode cL_law 40 = .ok (.astore 7, 2) := by decide +kernel
theorem dL_law_42 : decode cL_law 42 = .ok (.aload_n 2, 1) := by decide +kernel
theorem dL_law_43 : decode cL_law 43 = .ok (.iconst 0, 1) := by decide +kernel
theorem dL_law_44 : decode cL_law 44 = .ok (.iconst 1, 1) := by decide +kernel
theorem dL_law_45 : decode cL_law 45 = .ok (.iastore, 1) := by decide +kernel
theorem dL_law_46 : decode cL_law 46 = .ok (.aload_n 3, 1) := by decide +kernel
theorem dL_law_47 : decode cL_law 47 = .ok (.iconst 1, 1) := by decide +kernel
theorem dL_law_48 : decode cL_law 48 = .ok (.iconst (-1), 1) := by decide +kernel
theorem dL_law_49 : decode cL_law 49 = .ok (.iastore, 1) := by decide +kernel
theorem dL_law_50 : decode cL_law 50 = .ok (.aload_n 3, 1) := by decide +kernel
theorem dL_law_51 : decode cL_law 51 = .ok (.iconst 3, 1) := by decide +kernel
theorem dL_law_52 : decode cL_law 52 = .ok (.iconst 1, 1) := by decide +kernel
theorem dL_law_53 : decode cL_law 53 = .ok (.iastore, 1) := by decide +kernel
theorem dL_law_54 : decode cL_law 54 = .ok (.aload_n 1, 1) := by decide +kernel
theorem dL_law_55 : decode cL_law 55 = .ok (.aload_n 2, 1) := by decide +kernel
theorem dL_law_56 : decode cL_law 56 = .ok (.aload_n 3, 1) := by decide +kernel
theorem dL_law_57 : decode cL_law 57 = .ok (.aload 4, 2) := by decide +kernel
theorem dL_law_59 : decode cL_law 59 = .ok (.aload 5, 2) := by decide +kernel
theorem dL_law_61 : decode cL_law 61 = .ok (.aload 6, 2) := by decide +kernel
theorem dL_law_63 : decode cL_law 63 = .ok (.iconst 0, 1) := by decide +kernel
theorem dL_law_64 : decode cL_law 64 = .ok (.invokestatic 227, 3) := by decide +kernel
theorem dL_law_67 : decode cL_law 67 = .ok (.istore 8, 2) := by decide +kernel
theorem dL_law_69 : decode cL_law 69 = .ok (.iconst 0, 1) := by decide +kernel
theorem dL_law_70 : decode cL_law 70 = .ok (.istore 9, 2) := by decide +kernel
theorem dL_law_72 : decode cL_law 72 = .ok (.iload 9, 2) := by decide +kernel
theorem dL_law_74 : decode cL_law 74 = .ok (.sipush 130, 3) := by decide +kernel
theorem dL_law_77 : decode cL_law 77 = .ok (.if_icmp .ge 1031, 3) := by decide +kernel
theorem dL_law_80 : decode cL_law 80 = .ok (.iload 8, 2) := by decide +kernel
theorem dL_law_82 : decode cL_law 82 = .ok (.ifCond .eq 1026, 3) := by decide +kernel
theorem dL_law_85 : decode cL_law 85 = .ok (.iload 9, 2) := by decide +kernel
theorem dL_law_87 : decode cL_law 87 = .ok (.aload_n 0, 1) := by decide +kernel
theorem dL_law_88 : decode cL_law 88 = .ok (.arraylength, 1) := by decide +kernel
theorem dL_law_89 : decode cL_law 89 = .ok (.if_icmp .ge 13, 3) := by decide +kernel
theorem dL_law_92 : decode cL_law 92 = .ok (.aload_n 0, 1) := by decide +kernel
theorem dL_law_93 : decode cL_law 93 = .ok (.iload 9, 2) := by decide +kernel
theorem dL_law_95 : decode cL_law 95 = .ok (.iaload, 1) := by decide +kernel
theorem dL_law_96 : decode cL_law 96 = .ok (.ldc 231, 2) := by decide +kernel
theorem dL_law_98 : decode cL_law 98 = .ok (.iand, 1) := by decide +kernel
theorem dL_law_99 : decode cL_law 99 = .ok (.goto 24, 3) := by decide +kernel
theorem dL_law_102 : decode cL_law 102 = .ok (.ldc 232, 2) := by decide +kernel
theorem dL_law_104 : decode cL_law 104 = .ok (.iload 9, 2) := by decide +kernel
theorem dL_law_106 : decode cL_law 106 = .ok (.imul, 1) := by decide +kernel
theorem dL_law_107 : decode cL_law 107 = .ok (.iload 9, 2) := by decide +kernel
theorem dL_law_109 : decode cL_law 109 = .ok (.imul, 1) := by decide +kernel
theorem dL_law_110 : decode cL_law 110 = .ok (.sipush 9001, 3) := by decide +kernel
theorem dL_law_113 : decode cL_law 113 = .ok (.iload 9, 2) := by decide +kernel
theorem dL_law_115 : decode cL_law 115 = .ok (.imul, 1) := by decide +kernel
theorem dL_law_116 : decode cL_law 116 = .ok (.iadd, 1) := by decide +kernel
theorem dL_law_117 : decode cL_law 117 = .ok (.bipush 43, 2) := by decide +kernel
theorem dL_law_119 : decode cL_law 119 = .ok (.iadd, 1) := by decide +kernel
theorem dL_law_120 : decode cL_law 120 = .ok (.ldc 231, 2) := by decide +kernel
theorem dL_law_122 : decode cL_law 122 = .ok (.iand, 1) := by decide +kernel
theorem dL_law_123 : decode cL_law 123 = .ok (.istore 10, 2) := by decide +kernel
theorem dL_law_125 : decode cL_law 125 = .ok (.iload 9, 2) := by decide +kernel
theorem dL_law_127 : decode cL_law 127 = .ok (.bipush 6, 2) := by decide +kernel
theorem dL_law_129 : decode cL_law 129 = .ok (.if_icmp .ge 7, 3) := by decide +kernel
theorem dL_law_132 : decode cL_law 132 = .ok (.iconst 0, 1) := by decide +kernel
theorem dL_law_133 : decode cL_law 133 = .ok (.goto 8, 3) := by decide +kernel
theorem dL_law_136 : decode cL_law 136 = .ok (.iload 10, 2) := by decide +kernel
theorem dL_law_138 : decode cL_law 138 = .ok (.bipush 26, 2) := by decide +kernel
theorem dL_law_140 : decode cL_law 140 = .ok (.irem, 1) := by decide +kernel
theorem dL_law_141 : decode cL_law 141 = .ok (.istore 11, 2) := by decide +kernel
theorem dL_law_143 : decode cL_law 143 = .ok (.iload 10, 2) := by decide +kernel
theorem dL_law_145 : decode cL_law 145 = .ok (.bipush 26, 2) := by decide +kernel
theorem dL_law_147 : decode cL_law 147 = .ok (.idiv, 1) := by decide +kernel
theorem dL_law_148 : decode cL_law 148 = .ok (.istore 12, 2) := by decide +kernel
theorem dL_law_150 : decode cL_law 150 = .ok (.iload 12, 2) := by decide +kernel
theorem dL_law_152 : decode cL_law 152 = .ok (.aload_n 2, 1) := by decide +kernel
theorem dL_law_153 : decode cL_law 153 = .ok (.iconst 0, 1) := by decide +kernel
theorem dL_law_154 : decode cL_law 154 = .ok (.iaload, 1) := by decide +kernel
theorem dL_law_155 : decode cL_law 155 = .ok (.irem, 1) := by decide +kernel
theorem dL_law_156 : decode cL_law 156 = .ok (.istore 13, 2) := by decide +kernel
theorem dL_law_158 : decode cL_law 158 = .ok (.iconst 0, 1) := by decide +kernel
theorem dL_law_159 : decode cL_law 159 = .ok (.istore 14, 2) := by decide +kernel
theorem dL_law_161 : decode cL_law 161 = .ok (.iload 14, 2) := by decide +kernel
theorem dL_law_163 : decode cL_law 163 = .ok (.aload_n 2, 1) := by decide +kernel
theorem dL_law_164 : decode cL_law 164 = .ok (.iconst 0, 1) := by decide +kernel
theorem dL_law_165 : decode cL_law 165 = .ok (.iaload, 1) := by decide +kernel
theorem dL_law_166 : decode cL_law 166 = .ok (.if_icmp .ge 36, 3) := by decide +kernel
theorem dL_law_169 : decode cL_law 169 = .ok (.iload 12, 2) := by decide +kernel
theorem dL_law_171 : decode cL_law 171 = .ok (.bipush 7, 2) := by decide +kernel
theorem dL_law_173 : decode cL_law 173 = .ok (.irem, 1) := by decide +kernel
theorem dL_law_174 : decode cL_law 174 = .ok (.ifCond .le 28, 3) := by decide +kernel
theorem dL_law_177 : decode cL_law 177 = .ok (.aload_n 3, 1) := by decide +kernel
theorem dL_law_178 : decode cL_law 178 = .ok (.iload 13, 2) := by decide +kernel
theorem dL_law_180 : decode cL_law 180 = .ok (.invokestatic 7, 3) := by decide +kernel
theorem dL_law_183 : decode cL_law 183 = .ok (.ifCond .ne 19, 3) := by decide +kernel
theorem dL_law_186 : decode cL_law 186 = .ok (.iload 13, 2) := by decide +kernel
theorem dL_law_188 : decode cL_law 188 = .ok (.iconst 1, 1) := by decide +kernel
theorem dL_law_189 : decode cL_law 189 = .ok (.iadd, 1) := by decide +kernel
theorem dL_law_190 : decode cL_law 190 = .ok (.aload_n 2, 1) := by decide +kernel
theorem dL_law_191 : decode cL_law 191 = .ok (.iconst 0, 1) := by decide +kernel
theorem dL_law_192 : decode cL_law 192 = .ok (.iaload, 1) := by decide +kernel
theorem dL_law_193 : decode cL_law 193 = .ok (.irem, 1) := by decide +kernel
theorem dL_law_194 : decode cL_law 194 = .ok (.istore 13, 2) := by decide +kernel
theorem dL_law_196 : decode cL_law 196 = .ok (.iinc 14 1, 3) := by decide +kernel
theorem dL_law_199 : decode cL_law 199 = .ok (.goto (-38), 3) := by decide +kernel
theorem dL_law_202 : decode cL_law 202 = .ok (.aload_n 3, 1) := by decide +kernel
theorem dL_law_203 : decode cL_law 203 = .ok (.iload 13, 2) := by decide +kernel
theorem dL_law_205 : decode cL_law 205 = .ok (.invokestatic 7, 3) := by decide +kernel
theorem dL_law_208 : decode cL_law 208 = .ok (.istore 14, 2) := by decide +kernel
theorem dL_law_210 : decode cL_law 210 = .ok (.iload 11, 2) := by decide +kernel
theorem dL_law_212 : decode cL_law 212 = .ok (.iconst 4, 1) := by decide +kernel
theorem dL_law_213 : decode cL_law 213 = .ok (.if_icmp .ge 131, 3) := by decide +kernel
theorem dL_law_216 : decode cL_law 216 = .ok (.aload_n 2, 1) := by decide +kernel
theorem dL_law_217 : decode cL_law 217 = .ok (.iconst 0, 1) := by decide +kernel
theorem dL_law_218 : decode cL_law 218 = .ok (.iaload, 1) := by decide +kernel
theorem dL_law_219 : decode cL_law 219 = .ok (.bipush 10, 2) := by decide +kernel
theorem dL_law_221 : decode cL_law 221 = .ok (.if_icmp .ge 123, 3) := by decide +kernel
theorem dL_law_224 : decode cL_law 224 = .ok (.iload 9, 2) := by decide +kernel
theorem dL_law_226 : decode cL_law 226 = .ok (.ifCond .ne 7, 3) := by decide +kernel
theorem dL_law_229 : decode cL_law 229 = .ok (.iconst 0, 1) := by decide +kernel
theorem dL_law_230 : decode cL_law 230 = .ok (.goto 15, 3) := by decide +kernel
theorem dL_law_233 : decode cL_law 233 = .ok (.iload 9, 2) := by decide +kernel
theorem dL_law_235 : decode cL_law 235 = .ok (.iconst 3, 1) := by decide +kernel
theorem dL_law_236 : decode cL_law 236 = .ok (.if_icmp .ge 7, 3) := by decide +kernel
theorem dL_law_239 : decode cL_law 239 = .ok (.iconst 1, 1) := by decide +kernel
theorem dL_law_240 : decode cL_law 240 = .ok (.goto 5, 3) := by decide +kernel
theorem dL_law_243 : decode cL_law 243 = .ok (.iload 13, 2) := by decide +kernel
theorem dL_law_245 : decode cL_law 245 = .ok (.istore 15, 2) := by decide +kernel
theorem dL_law_247 : decode cL_law 247 = .ok (.aload_n 3, 1) := by decide +kernel
theorem dL_law_248 : decode cL_law 248 = .ok (.bipush 6, 2) := by decide +kernel
theorem dL_law_250 : decode cL_law 250 = .ok (.iload 15, 2) := by decide +kernel
theorem dL_law_252 : decode cL_law 252 = .ok (.imul, 1) := by decide +kernel
theorem dL_law_253 : decode cL_law 253 = .ok (.iaload, 1) := by decide +kernel
theorem dL_law_254 : decode cL_law 254 = .ok (.istore 16, 2) := by decide +kernel
theorem dL_law_256 : decode cL_law 256 = .ok (.iload 9, 2) := by decide +kernel
theorem dL_law_258 : decode cL_law 258 = .ok (.ifCond .ne 7, 3) := by decide +kernel
theorem dL_law_261 : decode cL_law 261 = .ok (.iconst 5, 1) := by decide +kernel
theorem dL_law_262 : decode cL_law 262 = .ok (.goto 61, 3) := by decide +kernel
theorem dL_law_265 : decode cL_law 265 = .ok (.iload 9, 2) := by decide +kernel
theorem dL_law_267 : decode cL_law 267 = .ok (.iconst 3, 1) := by decide +kernel
theorem dL_law_268 : decode cL_law 268 = .ok (.if_icmp .lt 16, 3) := by decide +kernel
theorem dL_law_271 : decode cL_law 271 = .ok (.iload 12, 2) := by decide +kernel
theorem dL_law_273 : decode cL_law 273 = .ok (.iconst 5, 1) := by decide +kernel
theorem dL_law_274 : decode cL_law 274 = .ok (.irem, 1) := by decide +kernel
theorem dL_law_275 : decode cL_law 275 = .ok (.ifCond .le 14, 3) := by decide +kernel
theorem dL_law_278 : decode cL_law 278 = .ok (.iload 16, 2) := by decide +kernel
theorem dL_law_280 : decode cL_law 280 = .ok (.iconst 5, 1) := by decide +kernel
theorem dL_law_281 : decode cL_law 281 = .ok (.if_icmp .ne 8, 3) := by decide +kernel
theorem dL_law_284 : decode cL_law 284 = .ok (.bipush 6, 2) := by decide +kernel
theorem dL_law_286 : decode cL_law 286 = .ok (.goto 37, 3) := by decide +kernel
theorem dL_law_289 : decode cL_law 289 = .ok (.iload 12, 2) := by decide +kernel
theorem dL_law_291 : decode cL_law 291 = .ok (.iconst 5, 1) := by decide +kernel
theorem dL_law_292 : decode cL_law 292 = .ok (.irem, 1) := by decide +kernel
theorem dL_law_293 : decode cL_law 293 = .ok (.ifCond .le 22, 3) := by decide +kernel
theorem dL_law_296 : decode cL_law 296 = .ok (.iload 16, 2) := by decide +kernel
theorem dL_law_298 : decode cL_law 298 = .ok (.bipush 6, 2) := by decide +kernel
theorem dL_law_300 : decode cL_law 300 = .ok (.if_icmp .ne 15, 3) := by decide +kernel
theorem dL_law_303 : decode cL_law 303 = .ok (.iconst 1, 1) := by decide +kernel
theorem dL_law_304 : decode cL_law 304 = .ok (.iload 12, 2) := by decide +kernel
theorem dL_law_306 : decode cL_law 306 = .ok (.bipush 11, 2) := by decide +kernel
theorem dL_law_308 : decode cL_law 308 = .ok (.idiv, 1) := by decide +kernel
theorem dL_law_309 : decode cL_law 309 = .ok (.iconst 4, 1) := by decide +kernel
theorem dL_law_310 : decode cL_law 310 = .ok (.irem, 1) := by decide +kernel
theorem dL_law_311 : decode cL_law 311 = .ok (.iadd, 1) := by decide +kernel
theorem dL_law_312 : decode cL_law 312 = .ok (.goto 11, 3) := by decide +kernel
theorem dL_law_315 : decode cL_law 315 = .ok (.iload 12, 2) := by decide +kernel
theorem dL_law_317 : decode cL_law 317 = .ok (.bipush 7, 2) := by decide +kernel
theorem dL_law_319 : decode cL_law 319 = .ok (.idiv, 1) := by decide +kernel
theorem dL_law_320 : decode cL_law 320 = .ok (.bipush 7, 2) := by decide +kernel
theorem dL_law_322 : decode cL_law 322 = .ok (.irem, 1) := by decide +kernel
theorem dL_law_323 : decode cL_law 323 = .ok (.istore 17, 2) := by decide +kernel
theorem dL_law_325 : decode cL_law 325 = .ok (.aload_n 1, 1) := by decide +kernel
theorem dL_law_326 : decode cL_law 326 = .ok (.aload_n 2, 1) := by decide +kernel
theorem dL_law_327 : decode cL_law 327 = .ok (.aload_n 3, 1) := by decide +kernel
theorem dL_law_328 : decode cL_law 328 = .ok (.aload 4, 2) := by decide +kernel
theorem dL_law_330 : decode cL_law 330 = .ok (.iload 15, 2) := by decide +kernel
theorem dL_law_332 : decode cL_law 332 = .ok (.iload 17, 2) := by decide +kernel
theorem dL_law_334 : decode cL_law 334 = .ok (.iload 12, 2) := by decide +kernel
theorem dL_law_336 : decode cL_law 336 = .ok (.invokestatic 233, 3) := by decide +kernel
theorem dL_law_339 : decode cL_law 339 = .ok (.istore 8, 2) := by decide +kernel
theorem dL_law_341 : decode cL_law 341 = .ok (.goto 609, 3) := by decide +kernel
theorem dL_law_344 : decode cL_law 344 = .ok (.iload 11, 2) := by decide +kernel
theorem dL_law_346 : decode cL_law 346 = .ok (.iconst 4, 1) := by decide +kernel
theorem dL_law_347 : decode cL_law 347 = .ok (.if_icmp .ne 63, 3) := by decide +kernel
theorem dL_law_350 : decode cL_law 350 = .ok (.iload 12, 2) := by decide +kernel
theorem dL_law_352 : decode cL_law 352 = .ok (.iconst 3, 1) := by decide +kernel
theorem dL_law_353 : decode cL_law 353 = .ok (.irem, 1) := by decide +kernel
theorem dL_law_354 : decode cL_law 354 = .ok (.ifCond .ne 56, 3) := by decide +kernel
theorem dL_law_357 : decode cL_law 357 = .ok (.iload 14, 2) := by decide +kernel
theorem dL_law_359 : decode cL_law 359 = .ok (.ifCond .ne 8, 3) := by decide +kernel
theorem dL_law_362 : decode cL_law 362 = .ok (.bipush (-11), 2) := by decide +kernel
theorem dL_law_364 : decode cL_law 364 = .ok (.goto 20, 3) := by decide +kernel
theorem dL_law_367 : decode cL_law 367 = .ok (.iload 13, 2) := by decide +kernel
theorem dL_law_369 : decode cL_law 369 = .ok (.ifCond .ne 8, 3) := by decide +kernel
theorem dL_law_372 : decode cL_law 372 = .ok (.bipush (-13), 2) := by decide +kernel
theorem dL_law_374 : decode cL_law 374 = .ok (.goto 10, 3) := by decide +kernel
theorem dL_law_377 : decode cL_law 377 = .ok (.aload_n 2, 1) := by decide +kernel
theorem dL_law_378 : decode cL_law 378 = .ok (.aload_n 3, 1) := by decide +kernel
theorem dL_law_379 : decode cL_law 379 = .ok (.iload 13, 2) := by decide +kernel
theorem dL_law_381 : decode cL_law 381 = .ok (.invokestatic 237, 3) := by decide +kernel
theorem dL_law_384 : decode cL_law 384 = .ok (.istore 15, 2) := by decide +kernel
theorem dL_law_386 : decode cL_law 386 = .ok (.aload_n 1, 1) := by decide +kernel
theorem dL_law_387 : decode cL_law 387 = .ok (.iconst 1, 1) := by decide +kernel
theorem dL_law_388 : decode cL_law 388 = .ok (.iload 13, 2) := by decide +kernel
theorem dL_law_390 : decode cL_law 390 = .ok (.iconst 0, 1) := by decide +kernel
theorem dL_law_391 : decode cL_law 391 = .ok (.iconst 0, 1) := by decide +kernel
theorem dL_law_392 : decode cL_law 392 = .ok (.invokestatic 194, 3) := by decide +kernel
theorem dL_law_395 : decode cL_law 395 = .ok (.iload 15, 2) := by decide +kernel
theorem dL_law_397 : decode cL_law 397 = .ok (.if_icmp .ne 7, 3) := by decide +kernel
theorem dL_law_400 : decode cL_law 400 = .ok (.iconst 1, 1) := by decide +kernel
theorem dL_law_401 : decode cL_law 401 = .ok (.goto 4, 3) := by decide +kernel
theorem dL_law_404 : decode cL_law 404 = .ok (.iconst 0, 1) := by decide +kernel
theorem dL_law_405 : decode cL_law 405 = .ok (.istore 8, 2) := by decide +kernel
theorem dL_law_407 : decode cL_law 407 = .ok (.goto 543, 3) := by decide +kernel
theorem dL_law_410 : decode cL_law 410 = .ok (.iload 11, 2) := by decide +kernel
theorem dL_law_412 : decode cL_law 412 = .ok (.iconst 5, 1) := by decide +kernel
theorem dL_law_413 : decode cL_law 413 = .ok (.if_icmp .ne 159, 3) := by decide +kernel
theorem dL_law_416 : decode cL_law 416 = .ok (.iload 12, 2) := by decide +kernel
theorem dL_law_418 : decode cL_law 418 = .ok (.bipush 10, 2) := by decide +kernel
theorem dL_law_420 : decode cL_law 420 = .ok (.idiv, 1) := by decide +kernel
theorem dL_law_421 : decode cL_law 421 = .ok (.iconst 3, 1) := by decide +kernel
theorem dL_law_422 : decode cL_law 422 = .ok (.irem, 1) := by decide +kernel
theorem dL_law_423 : decode cL_law 423 = .ok (.ifCond .le 7, 3) := by decide +kernel
theorem dL_law_426 : decode cL_law 426 = .ok (.iconst 1, 1) := by decide +kernel
theorem dL_law_427 : decode cL_law 427 = .ok (.goto 4, 3) := by decide +kernel
theorem dL_law_430 : decode cL_law 430 = .ok (.iconst 0, 1) := by decide +kernel
theorem dL_law_431 : decode cL_law 431 = .ok (.istore 15, 2) := by decide +kernel
theorem dL_law_433 : decode cL_law 433 = .ok (.iload 14, 2) := by decide +kernel
theorem dL_law_435 : decode cL_law 435 = .ok (.ifCond .ne 8, 3) := by decide +kernel
theorem dL_law_438 : decode cL_law 438 = .ok (.bipush (-11), 2) := by decide +kernel
theorem dL_law_440 : decode cL_law 440 = .ok (.goto 27, 3) := by decide +kernel
theorem dL_law_443 : decode cL_law 443 = .ok (.iload 13, 2) := by decide +kernel
theorem dL_law_445 : decode cL_law 445 = .ok (.ifCond .ne 8, 3) := by decide +kernel
theorem dL_law_448 : decode cL_law 448 = .ok (.bipush (-13), 2) := by decide +kernel
theorem dL_law_450 : decode cL_law 450 = .ok (.goto 17, 3) := by decide +kernel
theorem dL_law_453 : decode cL_law 453 = .ok (.aload_n 3, 1) := by decide +kernel
theorem dL_law_454 : decode cL_law 454 = .ok (.iload 13, 2) := by decide +kernel
theorem dL_law_456 : decode cL_law 456 = .ok (.invokestatic 13, 3) := by decide +kernel
theorem dL_law_459 : decode cL_law 459 = .ok (.ifCond .eq 7, 3) := by decide +kernel
theorem dL_law_462 : decode cL_law 462 = .ok (.iconst 1, 1) := by decide +kernel
theorem dL_law_463 : decode cL_law 463 = .ok (.goto 4, 3) := by decide +kernel
theorem dL_law_466 : decode cL_law 466 = .ok (.iconst 0, 1) := by decide +kernel
theorem dL_law_467 : decode cL_law 467 = .ok (.istore 16, 2) := by decide +kernel
theorem dL_law_469 : decode cL_law 469 = .ok (.iload 16, 2) := by decide +kernel
theorem dL_law_471 : decode cL_law 471 = .ok (.ifCond .lt 68, 3) := by decide +kernel
theorem dL_law_474 : decode cL_law 474 = .ok (.aload_n 3, 1) := by decide +kernel
theorem dL_law_475 : decode cL_law 475 = .ok (.bipush 6, 2) := by decide +kernel
theorem dL_law_477 : decode cL_law 477 = .ok (.iload 13, 2) := by decide +kernel
theorem dL_law_479 : decode cL_law 479 = .ok (.imul, 1) := by decide +kernel
theorem dL_law_480 : decode cL_law 480 = .ok (.iconst 3, 1) := by decide +kernel
theorem dL_law_481 : decode cL_law 481 = .ok (.iadd, 1) := by decide +kernel
theorem dL_law_482 : decode cL_law 482 = .ok (.iload 15, 2) := by decide +kernel
theorem dL_law_484 : decode cL_law 484 = .ok (.ifCond .eq 17, 3) := by decide +kernel
theorem dL_law_487 : decode cL_law 487 = .ok (.aload_n 3, 1) := by decide +kernel
theorem dL_law_488 : decode cL_law 488 = .ok (.bipush 6, 2) := by decide +kernel
theorem dL_law_490 : decode cL_law 490 = .ok (.iload 13, 2) := by decide +kernel
theorem dL_law_492 : decode cL_law 492 = .ok (.imul, 1) := by decide +kernel
theorem dL_law_493 : decode cL_law 493 = .ok (.iconst 3, 1) := by decide +kernel
theorem dL_law_494 : decode cL_law 494 = .ok (.iadd, 1) := by decide +kernel
theorem dL_law_495 : decode cL_law 495 = .ok (.iaload, 1) := by decide +kernel
theorem dL_law_496 : decode cL_law 496 = .ok (.iconst 2, 1) := by decide +kernel
theorem dL_law_497 : decode cL_law 497 = .ok (.ior, 1) := by decide +kernel
theorem dL_law_498 : decode cL_law 498 = .ok (.goto 15, 3) := by decide +kernel
theorem dL_law_501 : decode cL_law 501 = .ok (.aload_n 3, 1) := by decide +kernel
theorem dL_law_502 : decode cL_law 502 = .ok (.bipush 6, 2) := by decide +kernel
theorem dL_law_504 : decode cL_law 504 = .ok (.iload 13, 2) := by decide +kernel
theorem dL_law_506 : decode cL_law 506 = .ok (.imul, 1) := by decide +kernel
theorem dL_law_507 : decode cL_law 507 = .ok (.iconst 3, 1) := by decide +kernel
theorem dL_law_508 : decode cL_law 508 = .ok (.iadd, 1) := by decide +kernel
theorem dL_law_509 : decode cL_law 509 = .ok (.iaload, 1) := by decide +kernel
theorem dL_law_510 : decode cL_law 510 = .ok (.bipush (-3), 2) := by decide +kernel
theorem dL_law_512 : decode cL_law 512 = .ok (.iand, 1) := by decide +kernel
theorem dL_law_513 : decode cL_law 513 = .ok (.iastore, 1) := by decide +kernel
theorem dL_law_514 : decode cL_law 514 = .ok (.aload_n 2, 1) := by decide +kernel
theorem dL_law_515 : decode cL_law 515 = .ok (.aload_n 3, 1) := by decide +kernel
theorem dL_law_516 : decode cL_law 516 = .ok (.aload_n 3, 1) := by decide +kernel
theorem dL_law_517 : decode cL_law 517 = .ok (.bipush 6, 2) := by decide +kernel
theorem dL_law_519 : decode cL_law 519 = .ok (.iload 13, 2) := by decide +kernel
theorem dL_law_521 : decode cL_law 521 = .ok (.imul, 1) := by decide +kernel
theorem dL_law_522 : decode cL_law 522 = .ok (.iconst 1, 1) := by decide +kernel
theorem dL_law_523 : decode cL_law 523 = .ok (.iadd, 1) := by decide +kernel
theorem dL_law_524 : decode cL_law 524 = .ok (.iaload, 1) := by decide +kernel
theorem dL_law_525 : decode cL_law 525 = .ok (.aload_n 3, 1) := by decide +kernel
theorem dL_law_526 : decode cL_law 526 = .ok (.bipush 6, 2) := by decide +kernel
theorem dL_law_528 : decode cL_law 528 = .ok (.iload 13, 2) := by decide +kernel
theorem dL_law_530 : decode cL_law 530 = .ok (.imul, 1) := by decide +kernel
theorem dL_law_531 : decode cL_law 531 = .ok (.iconst 2, 1) := by decide +kernel
theorem dL_law_532 : decode cL_law 532 = .ok (.iadd, 1) := by decide +kernel
theorem dL_law_533 : decode cL_law 533 = .ok (.iaload, 1) := by decide +kernel
theorem dL_law_534 : decode cL_law 534 = .ok (.iconst 1, 1) := by decide +kernel
theorem dL_law_535 : decode cL_law 535 = .ok (.iadd, 1) := by decide +kernel
theorem dL_law_536 : decode cL_law 536 = .ok (.invokestatic 219, 3) := by decide +kernel
theorem dL_law_539 : decode cL_law 539 = .ok (.aload_n 1, 1) := by decide +kernel
theorem dL_law_540 : decode cL_law 540 = .ok (.iconst 2, 1) := by decide +kernel
theorem dL_law_541 : decode cL_law 541 = .ok (.iload 13, 2) := by decide +kernel
theorem dL_law_543 : decode cL_law 543 = .ok (.iload 15, 2) := by decide +kernel
theorem dL_law_545 : decode cL_law 545 = .ok (.ifCond .eq 7, 3) := by decide +kernel
theorem dL_law_548 : decode cL_law 548 = .ok (.iconst 1, 1) := by decide +kernel
theorem dL_law_549 : decode cL_law 549 = .ok (.goto 4, 3) := by decide +kernel
theorem dL_law_552 : decode cL_law 552 = .ok (.iconst 0, 1) := by decide +kernel
theorem dL_law_553 : decode cL_law 553 = .ok (.iconst 0, 1) := by decide +kernel
theorem dL_law_554 : decode cL_law 554 = .ok (.invokestatic 194, 3) := by decide +kernel
theorem dL_law_557 : decode cL_law 557 = .ok (.iload 16, 2) := by decide +kernel
theorem dL_law_559 : decode cL_law 559 = .ok (.if_icmp .ne 7, 3) := by decide +kernel
theorem dL_law_562 : decode cL_law 562 = .ok (.iconst 1, 1) := by decide +kernel
theorem dL_law_563 : decode cL_law 563 = .ok (.goto 4, 3) := by decide +kernel
theorem dL_law_566 : decode cL_law 566 = .ok (.iconst 0, 1) := by decide +kernel
theorem dL_law_567 : decode cL_law 567 = .ok (.istore 8, 2) := by decide +kernel
theorem dL_law_569 : decode cL_law 569 = .ok (.goto 381, 3) := by decide +kernel
theorem dL_law_572 : decode cL_law 572 = .ok (.iload 11, 2) := by decide +kernel
theorem dL_law_574 : decode cL_law 574 = .ok (.bipush 6, 2) := by decide +kernel
theorem dL_law_576 : decode cL_law 576 = .ok (.if_icmp .ne 76, 3) := by decide +kernel
theorem dL_law_579 : decode cL_law 579 = .ok (.iload 14, 2) := by decide +kernel
theorem dL_law_581 : decode cL_law 581 = .ok (.ifCond .ne 8, 3) := by decide +kernel
theorem dL_law_584 : decode cL_law 584 = .ok (.bipush (-11), 2) := by decide +kernel
theorem dL_law_586 : decode cL_law 586 = .ok (.goto 14, 3) := by decide +kernel
theorem dL_law_589 : decode cL_law 589 = .ok (.iload 13, 2) := by decide +kernel
theorem dL_law_591 : decode cL_law 591 = .ok (.ifCond .ne 8, 3) := by decide +kernel
theorem dL_law_594 : decode cL_law 594 = .ok (.bipush (-13), 2) := by decide +kernel
theorem dL_law_596 : decode cL_law 596 = .ok (.goto 4, 3) := by decide +kernel
theorem dL_law_599 : decode cL_law 599 = .ok (.iconst 0, 1) := by decide +kernel
theorem dL_law_600 : decode cL_law 600 = .ok (.istore 15, 2) := by decide +kernel
theorem dL_law_602 : decode cL_law 602 = .ok (.iload 15, 2) := by decide +kernel
theorem dL_law_604 : decode cL_law 604 = .ok (.ifCond .ne 24, 3) := by decide +kernel
theorem dL_law_607 : decode cL_law 607 = .ok (.aload 4, 2) := by decide +kernel
theorem dL_law_609 : decode cL_law 609 = .ok (.iload 13, 2) := by decide +kernel
theorem dL_law_611 : decode cL_law 611 = .ok (.aload_n 1, 1) := by decide +kernel
theorem dL_law_612 : decode cL_law 612 = .ok (.iload 12, 2) := by decide +kernel
theorem dL_law_614 : decode cL_law 614 = .ok (.invokestatic 222, 3) := by decide +kernel
theorem dL_law_617 : decode cL_law 617 = .ok (.lastore, 1) := by decide +kernel
theorem dL_law_618 : decode cL_law 618 = .ok (.aload 4, 2) := by decide +kernel
theorem dL_law_620 : decode cL_law 620 = .ok (.iload 13, 2) := by decide +kernel
theorem dL_law_622 : decode cL_law 622 = .ok (.laload, 1) := by decide +kernel
theorem dL_law_623 : decode cL_law 623 = .ok (.invokestatic 34, 3) := by decide +kernel
theorem dL_law_626 : decode cL_law 626 = .ok (.istore 15, 2) := by decide +kernel
theorem dL_law_628 : decode cL_law 628 = .ok (.aload_n 1, 1) := by decide +kernel
theorem dL_law_629 : decode cL_law 629 = .ok (.iconst 3, 1) := by decide +kernel
theorem dL_law_630 : decode cL_law 630 = .ok (.iload 13, 2) := by decide +kernel
theorem dL_law_632 : decode cL_law 632 = .ok (.iconst 0, 1) := by decide +kernel
theorem dL_law_633 : decode cL_law 633 = .ok (.iconst 0, 1) := by decide +kernel
theorem dL_law_634 : decode cL_law 634 = .ok (.invokestatic 194, 3) := by decide +kernel
theorem dL_law_637 : decode cL_law 637 = .ok (.iload 15, 2) := by decide +kernel
theorem dL_law_639 : decode cL_law 639 = .ok (.if_icmp .ne 7, 3) := by decide +kernel
theorem dL_law_642 : decode cL_law 642 = .ok (.iconst 1, 1) := by decide +kernel
theorem dL_law_643 : decode cL_law 643 = .ok (.goto 4, 3) := by decide +kernel
theorem dL_law_646 : decode cL_law 646 = .ok (.iconst 0, 1) := by decide +kernel
theorem dL_law_647 : decode cL_law 647 = .ok (.istore 8, 2) := by decide +kernel
theorem dL_law_649 : decode cL_law 649 = .ok (.goto 301, 3) := by decide +kernel
theorem dL_law_652 : decode cL_law 652 = .ok (.iload 11, 2) := by decide +kernel
theorem dL_law_654 : decode cL_law 654 = .ok (.bipush 7, 2) := by decide +kernel
theorem dL_law_656 : decode cL_law 656 = .ok (.if_icmp .ne 151, 3) := by decide +kernel
theorem dL_law_659 : decode cL_law 659 = .ok (.iload 12, 2) := by decide +kernel
theorem dL_law_661 : decode cL_law 661 = .ok (.bipush 10, 2) := by decide +kernel
theorem dL_law_663 : decode cL_law 663 = .ok (.idiv, 1) := by decide +kernel
theorem dL_law_664 : decode cL_law 664 = .ok (.iconst 2, 1) := by decide +kernel
theorem dL_law_665 : decode cL_law 665 = .ok (.irem, 1) := by decide +kernel
theorem dL_law_666 : decode cL_law 666 = .ok (.ifCond .ne 7, 3) := by decide +kernel
theorem dL_law_669 : decode cL_law 669 = .ok (.iconst 1, 1) := by decide +kernel
theorem dL_law_670 : decode cL_law 670 = .ok (.goto 4, 3) := by decide +kernel
theorem dL_law_673 : decode cL_law 673 = .ok (.iconst 0, 1) := by decide +kernel
theorem dL_law_674 : decode cL_law 674 = .ok (.istore 15, 2) := by decide +kernel
theorem dL_law_676 : decode cL_law 676 = .ok (.iload 14, 2) := by decide +kernel
theorem dL_law_678 : decode cL_law 678 = .ok (.ifCond .ne 8, 3) := by decide +kernel
theorem dL_law_681 : decode cL_law 681 = .ok (.bipush (-11), 2) := by decide +kernel
theorem dL_law_683 : decode cL_law 683 = .ok (.goto 32, 3) := by decide +kernel
theorem dL_law_686 : decode cL_law 686 = .ok (.aload_n 3, 1) := by decide +kernel
theorem dL_law_687 : decode cL_law 687 = .ok (.bipush 6, 2) := by decide +kernel
theorem dL_law_689 : decode cL_law 689 = .ok (.iload 13, 2) := by decide +kernel
theorem dL_law_691 : decode cL_law 691 = .ok (.imul, 1) := by decide +kernel
theorem dL_law_692 : decode cL_law 692 = .ok (.iaload, 1) := by decide +kernel
theorem dL_law_693 : decode cL_law 693 = .ok (.iconst 3, 1) := by decide +kernel
theorem dL_law_694 : decode cL_law 694 = .ok (.if_icmp .eq 8, 3) := by decide +kernel
theorem dL_law_697 : decode cL_law 697 = .ok (.bipush (-13), 2) := by decide +kernel
theorem dL_law_699 : decode cL_law 699 = .ok (.goto 16, 3) := by decide +kernel
theorem dL_law_702 : decode cL_law 702 = .ok (.aload_n 3, 1) := by decide +kernel
theorem dL_law_703 : decode cL_law 703 = .ok (.bipush 6, 2) := by decide +kernel
theorem dL_law_705 : decode cL_law 705 = .ok (.iload 13, 2) := by decide +kernel
theorem dL_law_707 : decode cL_law 707 = .ok (.imul, 1) := by decide +kernel
theorem dL_law_708 : decode cL_law 708 = .ok (.iconst 3, 1) := by decide +kernel
theorem dL_law_709 : decode cL_law 709 = .ok (.iadd, 1) := by decide +kernel
theorem dL_law_710 : decode cL_law 710 = .ok (.iaload, 1) := by decide +kernel
theorem dL_law_711 : decode cL_law 711 = .ok (.iconst 4, 1) := by decide +kernel
theorem dL_law_712 : decode cL_law 712 = .ok (.iand, 1) := by decide +kernel
theorem dL_law_713 : decode cL_law 713 = .ok (.iconst 4, 1) := by decide +kernel
theorem dL_law_714 : decode cL_law 714 = .ok (.idiv, 1) := by decide +kernel
theorem dL_law_715 : decode cL_law 715 = .ok (.istore 16, 2) := by decide +kernel
theorem dL_law_717 : decode cL_law 717 = .ok (.aload_n 3, 1) := by decide +kernel
theorem dL_law_718 : decode cL_law 718 = .ok (.bipush 6, 2) := by decide +kernel
theorem dL_law_720 : decode cL_law 720 = .ok (.iload 13, 2) := by decide +kernel
theorem dL_law_722 : decode cL_law 722 = .ok (.imul, 1) := by decide +kernel
theorem dL_law_723 : decode cL_law 723 = .ok (.iconst 3, 1) := by decide +kernel
theorem dL_law_724 : decode cL_law 724 = .ok (.iadd, 1) := by decide +kernel
theorem dL_law_725 : decode cL_law 725 = .ok (.iload 16, 2) := by decide +kernel
theorem dL_law_727 : decode cL_law 727 = .ok (.ifCond .ge 15, 3) := by decide +kernel
theorem dL_law_730 : decode cL_law 730 = .ok (.aload_n 3, 1) := by decide +kernel
theorem dL_law_731 : decode cL_law 731 = .ok (.bipush 6, 2) := by decide +kernel
theorem dL_law_733 : decode cL_law 733 = .ok (.iload 13, 2) := by decide +kernel
theorem dL_law_735 : decode cL_law 735 = .ok (.imul, 1) := by decide +kernel
theorem dL_law_736 : decode cL_law 736 = .ok (.iconst 3, 1) := by decide +kernel
theorem dL_law_737 : decode cL_law 737 = .ok (.iadd, 1) := by decide +kernel
theorem dL_law_738 : decode cL_law 738 = .ok (.iaload, 1) := by decide +kernel
theorem dL_law_739 : decode cL_law 739 = .ok (.goto 34, 3) := by decide +kernel
theorem dL_law_742 : decode cL_law 742 = .ok (.iload 15, 2) := by decide +kernel
theorem dL_law_744 : decode cL_law 744 = .ok (.ifCond .eq 17, 3) := by decide +kernel
theorem dL_law_747 : decode cL_law 747 = .ok (.aload_n 3, 1) := by decide +kernel
theorem dL_law_748 : decode cL_law 748 = .ok (.bipush 6, 2) := by decide +kernel
theorem dL_law_750 : decode cL_law 750 = .ok (.iload 13, 2) := by decide +kernel
theorem dL_law_752 : decode cL_law 752 = .ok (.imul, 1) := by decide +kernel
theorem dL_law_753 : decode cL_law 753 = .ok (.iconst 3, 1) := by decide +kernel
theorem dL_law_754 : decode cL_law 754 = .ok (.iadd, 1) := by decide +kernel
theorem dL_law_755 : decode cL_law 755 = .ok (.iaload, 1) := by decide +kernel
theorem dL_law_756 : decode cL_law 756 = .ok (.iconst 4, 1) := by decide +kernel
theorem dL_law_757 : decode cL_law 757 = .ok (.ior, 1) := by decide +kernel
theorem dL_law_758 : decode cL_law 758 = .ok (.goto 15, 3) := by decide +kernel
theorem dL_law_761 : decode cL_law 761 = .ok (.aload_n 3, 1) := by decide +kernel
theorem dL_law_762 : decode cL_law 762 = .ok (.bipush 6, 2) := by decide +kernel
theorem dL_law_764 : decode cL_law 764 = .ok (.iload 13, 2) := by decide +kernel
theorem dL_law_766 : decode cL_law 766 = .ok (.imul, 1) := by decide +kernel
theorem dL_law_767 : decode cL_law 767 = .ok (.iconst 3, 1) := by decide +kernel
theorem dL_law_768 : decode cL_law 768 = .ok (.iadd, 1) := by decide +kernel
theorem dL_law_769 : decode cL_law 769 = .ok (.iaload, 1) := by decide +kernel
theorem dL_law_770 : decode cL_law 770 = .ok (.bipush (-5), 2) := by decide +kernel
theorem dL_law_772 : decode cL_law 772 = .ok (.iand, 1) := by decide +kernel
theorem dL_law_773 : decode cL_law 773 = .ok (.iastore, 1) := by decide +kernel
theorem dL_law_774 : decode cL_law 774 = .ok (.aload_n 1, 1) := by decide +kernel
theorem dL_law_775 : decode cL_law 775 = .ok (.iconst 4, 1) := by decide +kernel
theorem dL_law_776 : decode cL_law 776 = .ok (.iload 13, 2) := by decide +kernel
theorem dL_law_778 : decode cL_law 778 = .ok (.iload 15, 2) := by decide +kernel
theorem dL_law_780 : decode cL_law 780 = .ok (.ifCond .eq 7, 3) := by decide +kernel
theorem dL_law_783 : decode cL_law 783 = .ok (.iconst 1, 1) := by decide +kernel
theorem dL_law_784 : decode cL_law 784 = .ok (.goto 4, 3) := by decide +kernel
theorem dL_law_787 : decode cL_law 787 = .ok (.iconst 0, 1) := by decide +kernel
theorem dL_law_788 : decode cL_law 788 = .ok (.iconst 0, 1) := by decide +kernel
theorem dL_law_789 : decode cL_law 789 = .ok (.invokestatic 194, 3) := by decide +kernel
theorem dL_law_792 : decode cL_law 792 = .ok (.iload 16, 2) := by decide +kernel
theorem dL_law_794 : decode cL_law 794 = .ok (.if_icmp .ne 7, 3) := by decide +kernel
theorem dL_law_797 : decode cL_law 797 = .ok (.iconst 1, 1) := by decide +kernel
theorem dL_law_798 : decode cL_law 798 = .ok (.goto 4, 3) := by decide +kernel
theorem dL_law_801 : decode cL_law 801 = .ok (.iconst 0, 1) := by decide +kernel
theorem dL_law_802 : decode cL_law 802 = .ok (.istore 8, 2) := by decide +kernel
theorem dL_law_804 : decode cL_law 804 = .ok (.goto 146, 3) := by decide +kernel
theorem dL_law_807 : decode cL_law 807 = .ok (.iload 11, 2) := by decide +kernel
theorem dL_law_809 : decode cL_law 809 = .ok (.bipush 8, 2) := by decide +kernel
theorem dL_law_811 : decode cL_law 811 = .ok (.if_icmp .ne 88, 3) := by decide +kernel
theorem dL_law_814 : decode cL_law 814 = .ok (.iload 12, 2) := by decide +kernel
theorem dL_law_816 : decode cL_law 816 = .ok (.bipush 10, 2) := by decide +kernel
theorem dL_law_818 : decode cL_law 818 = .ok (.idiv, 1) := by decide +kernel
theorem dL_law_819 : decode cL_law 819 = .ok (.iconst 4, 1) := by decide +kernel
theorem dL_law_820 : decode cL_law 820 = .ok (.irem, 1) := by decide +kernel
theorem dL_law_821 : decode cL_law 821 = .ok (.iconst 1, 1) := by decide +kernel
theorem dL_law_822 : decode cL_law 822 = .ok (.isub, 1) := by decide +kernel
theorem dL_law_823 : decode cL_law 823 = .ok (.istore 15, 2) := by decide +kernel
theorem dL_law_825 : decode cL_law 825 = .ok (.aload_n 1, 1) := by decide +kernel
theorem dL_law_826 : decode cL_law 826 = .ok (.iconst 5, 1) := by decide +kernel
theorem dL_law_827 : decode cL_law 827 = .ok (.iload 13, 2) := by decide +kernel
theorem dL_law_829 : decode cL_law 829 = .ok (.iload 15, 2) := by decide +kernel
theorem dL_law_831 : decode cL_law 831 = .ok (.iconst 0, 1) := by decide +kernel
theorem dL_law_832 : decode cL_law 832 = .ok (.invokestatic 194, 3) := by decide +kernel
theorem dL_law_835 : decode cL_law 835 = .ok (.iload 14, 2) := by decide +kernel
theorem dL_law_837 : decode cL_law 837 = .ok (.ifCond .eq 17, 3) := by decide +kernel
theorem dL_law_840 : decode cL_law 840 = .ok (.aload_n 3, 1) := by decide +kernel
theorem dL_law_841 : decode cL_law 841 = .ok (.bipush 6, 2) := by decide +kernel
theorem dL_law_843 : decode cL_law 843 = .ok (.iload 13, 2) := by decide +kernel
theorem dL_law_845 : decode cL_law 845 = .ok (.imul, 1) := by decide +kernel
theorem dL_law_846 : decode cL_law 846 = .ok (.iconst 4, 1) := by decide +kernel
theorem dL_law_847 : decode cL_law 847 = .ok (.iadd, 1) := by decide +kernel
theorem dL_law_848 : decode cL_law 848 = .ok (.iaload, 1) := by decide +kernel
theorem dL_law_849 : decode cL_law 849 = .ok (.iconst 1, 1) := by decide +kernel
theorem dL_law_850 : decode cL_law 850 = .ok (.isub, 1) := by decide +kernel
theorem dL_law_851 : decode cL_law 851 = .ok (.goto 5, 3) := by decide +kernel
theorem dL_law_854 : decode cL_law 854 = .ok (.bipush (-11), 2) := by decide +kernel
theorem dL_law_856 : decode cL_law 856 = .ok (.if_icmp .ne 7, 3) := by decide +kernel
theorem dL_law_859 : decode cL_law 859 = .ok (.iconst 1, 1) := by decide +kernel
theorem dL_law_860 : decode cL_law 860 = .ok (.goto 4, 3) := by decide +kernel
theorem dL_law_863 : decode cL_law 863 = .ok (.iconst 0, 1) := by decide +kernel
theorem dL_law_864 : decode cL_law 864 = .ok (.istore 8, 2) := by decide +kernel
theorem dL_law_866 : decode cL_law 866 = .ok (.aload_n 3, 1) := by decide +kernel
theorem dL_law_867 : decode cL_law 867 = .ok (.bipush 6, 2) := by decide +kernel
theorem dL_law_869 : decode cL_law 869 = .ok (.iload 13, 2) := by decide +kernel
theorem dL_law_871 : decode cL_law 871 = .ok (.imul, 1) := by decide +kernel
theorem dL_law_872 : decode cL_law 872 = .ok (.iconst 4, 1) := by decide +kernel
theorem dL_law_873 : decode cL_law 873 = .ok (.iadd, 1) := by decide +kernel
theorem dL_law_874 : decode cL_law 874 = .ok (.iload 14, 2) := by decide +kernel
theorem dL_law_876 : decode cL_law 876 = .ok (.ifCond .eq 10, 3) := by decide +kernel
theorem dL_law_879 : decode cL_law 879 = .ok (.iload 15, 2) := by decide +kernel
theorem dL_law_881 : decode cL_law 881 = .ok (.iconst 1, 1) := by decide +kernel
theorem dL_law_882 : decode cL_law 882 = .ok (.iadd, 1) := by decide +kernel
theorem dL_law_883 : decode cL_law 883 = .ok (.goto 12, 3) := by decide +kernel
theorem dL_law_886 : decode cL_law 886 = .ok (.aload_n 3, 1) := by decide +kernel
theorem dL_law_887 : decode cL_law 887 = .ok (.bipush 6, 2) := by decide +kernel
theorem dL_law_889 : decode cL_law 889 = .ok (.iload 13, 2) := by decide +kernel
theorem dL_law_891 : decode cL_law 891 = .ok (.imul, 1) := by decide +kernel
theorem dL_law_892 : decode cL_law 892 = .ok (.iconst 4, 1) := by decide +kernel
theorem dL_law_893 : decode cL_law 893 = .ok (.iadd, 1) := by decide +kernel
theorem dL_law_894 : decode cL_law 894 = .ok (.iaload, 1) := by decide +kernel
theorem dL_law_895 : decode cL_law 895 = .ok (.iastore, 1) := by decide +kernel
theorem dL_law_896 : decode cL_law 896 = .ok (.goto 54, 3) := by decide +kernel
theorem dL_law_899 : decode cL_law 899 = .ok (.aload_n 2, 1) := by decide +kernel
theorem dL_law_900 : decode cL_law 900 = .ok (.iload 12, 2) := by decide +kernel
theorem dL_law_902 : decode cL_law 902 = .ok (.invokestatic 240, 3) := by decide +kernel
theorem dL_law_905 : decode cL_law 905 = .ok (.istore 15, 2) := by decide +kernel
theorem dL_law_907 : decode cL_law 907 = .ok (.aload_n 2, 1) := by decide +kernel
theorem dL_law_908 : decode cL_law 908 = .ok (.aload_n 3, 1) := by decide +kernel
theorem dL_law_909 : decode cL_law 909 = .ok (.aload 5, 2) := by decide +kernel
theorem dL_law_911 : decode cL_law 911 = .ok (.aload 6, 2) := by decide +kernel
theorem dL_law_913 : decode cL_law 913 = .ok (.aload_n 2, 1) := by decide +kernel
theorem dL_law_914 : decode cL_law 914 = .ok (.aload_n 3, 1) := by decide +kernel
theorem dL_law_915 : decode cL_law 915 = .ok (.aload 4, 2) := by decide +kernel
theorem dL_law_917 : decode cL_law 917 = .ok (.aload 5, 2) := by decide +kernel
theorem dL_law_919 : decode cL_law 919 = .ok (.aload 6, 2) := by decide +kernel
theorem dL_law_921 : decode cL_law 921 = .ok (.aload 7, 2) := by decide +kernel
theorem dL_law_923 : decode cL_law 923 = .ok (.invokestatic 198, 3) := by decide +kernel
theorem dL_law_926 : decode cL_law 926 = .ok (.iload 15, 2) := by decide +kernel
theorem dL_law_928 : decode cL_law 928 = .ok (.invokestatic 242, 3) := by decide +kernel
theorem dL_law_931 : decode cL_law 931 = .ok (.aload_n 1, 1) := by decide +kernel
theorem dL_law_932 : decode cL_law 932 = .ok (.iload 15, 2) := by decide +kernel
theorem dL_law_934 : decode cL_law 934 = .ok (.invokevirtual 245, 3) := by decide +kernel
theorem dL_law_937 : decode cL_law 937 = .ok (.aload_n 2, 1) := by decide +kernel
theorem dL_law_938 : decode cL_law 938 = .ok (.iconst 1, 1) := by decide +kernel
theorem dL_law_939 : decode cL_law 939 = .ok (.iaload, 1) := by decide +kernel
theorem dL_law_940 : decode cL_law 940 = .ok (.if_icmp .ne 7, 3) := by decide +kernel
theorem dL_law_943 : decode cL_law 943 = .ok (.iconst 1, 1) := by decide +kernel
theorem dL_law_944 : decode cL_law 944 = .ok (.goto 4, 3) := by decide +kernel
theorem dL_law_947 : decode cL_law 947 = .ok (.iconst 0, 1) := by decide +kernel
theorem dL_law_948 : decode cL_law 948 = .ok (.istore 8, 2) := by decide +kernel
theorem dL_law_950 : decode cL_law 950 = .ok (.aload_n 2, 1) := by decide +kernel
theorem dL_law_951 : decode cL_law 951 = .ok (.aload_n 3, 1) := by decide +kernel
theorem dL_law_952 : decode cL_law 952 = .ok (.aload 4, 2) := by decide +kernel
theorem dL_law_954 : decode cL_law 954 = .ok (.aload 5, 2) := by decide +kernel
theorem dL_law_956 : decode cL_law 956 = .ok (.aload 6, 2) := by decide +kernel
theorem dL_law_958 : decode cL_law 958 = .ok (.aload 7, 2) := by decide +kernel
theorem dL_law_960 : decode cL_law 960 = .ok (.invokestatic 198, 3) := by decide +kernel
theorem dL_law_963 : decode cL_law 963 = .ok (.istore 15, 2) := by decide +kernel
theorem dL_law_965 : decode cL_law 965 = .ok (.aload_n 2, 1) := by decide +kernel
theorem dL_law_966 : decode cL_law 966 = .ok (.iconst 3, 1) := by decide +kernel
theorem dL_law_967 : decode cL_law 967 = .ok (.aload_n 2, 1) := by decide +kernel
theorem dL_law_968 : decode cL_law 968 = .ok (.iconst 3, 1) := by decide +kernel
theorem dL_law_969 : decode cL_law 969 = .ok (.iaload, 1) := by decide +kernel
theorem dL_law_970 : decode cL_law 970 = .ok (.ifCond .le 33, 3) := by decide +kernel
theorem dL_law_973 : decode cL_law 973 = .ok (.aload_n 2, 1) := by decide +kernel
theorem dL_law_974 : decode cL_law 974 = .ok (.iconst 3, 1) := by decide +kernel
theorem dL_law_975 : decode cL_law 975 = .ok (.iaload, 1) := by decide +kernel
theorem dL_law_976 : decode cL_law 976 = .ok (.iload 15, 2) := by decide +kernel
theorem dL_law_978 : decode cL_law 978 = .ok (.if_icmp .lt 25, 3) := by decide +kernel
theorem dL_law_981 : decode cL_law 981 = .ok (.iload 15, 2) := by decide +kernel
theorem dL_law_983 : decode cL_law 983 = .ok (.ifCond .ne 7, 3) := by decide +kernel
theorem dL_law_986 : decode cL_law 986 = .ok (.iconst 0, 1) := by decide +kernel
theorem dL_law_987 : decode cL_law 987 = .ok (.goto 19, 3) := by decide +kernel
theorem dL_law_990 : decode cL_law 990 = .ok (.iload 15, 2) := by decide +kernel
theorem dL_law_992 : decode cL_law 992 = .ok (.iconst 1, 1) := by decide +kernel
theorem dL_law_993 : decode cL_law 993 = .ok (.isub, 1) := by decide +kernel
theorem dL_law_994 : decode cL_law 994 = .ok (.bipush 10, 2) := by decide +kernel
theorem dL_law_996 : decode cL_law 996 = .ok (.idiv, 1) := by decide +kernel
theorem dL_law_997 : decode cL_law 997 = .ok (.bipush 10, 2) := by decide +kernel
theorem dL_law_999 : decode cL_law 999 = .ok (.imul, 1) := by decide +kernel
theorem dL_law_1000 : decode cL_law 1000 = .ok (.goto 6, 3) := by decide +kernel
theorem dL_law_1003 : decode cL_law 1003 = .ok (.aload_n 2, 1) := by decide +kernel
theorem dL_law_1004 : decode cL_law 1004 = .ok (.iconst 3, 1) := by decide +kernel
theorem dL_law_1005 : decode cL_law 1005 = .ok (.iaload, 1) := by decide +kernel
theorem dL_law_1006 : decode cL_law 1006 = .ok (.iastore, 1) := by decide +kernel
theorem dL_law_1007 : decode cL_law 1007 = .ok (.iload 8, 2) := by decide +kernel
theorem dL_law_1009 : decode cL_law 1009 = .ok (.ifCond .eq 53, 3) := by decide +kernel
theorem dL_law_1012 : decode cL_law 1012 = .ok (.iload 11, 2) := by decide +kernel
theorem dL_law_1014 : decode cL_law 1014 = .ok (.iconst 4, 1) := by decide +kernel
theorem dL_law_1015 : decode cL_law 1015 = .ok (.if_icmp .eq 9, 3) := by decide +kernel
theorem dL_law_1018 : decode cL_law 1018 = .ok (.iload 11, 2) := by decide +kernel
theorem dL_law_1020 : decode cL_law 1020 = .ok (.iconst 5, 1) := by decide +kernel
theorem dL_law_1021 : decode cL_law 1021 = .ok (.if_icmp .ne 20, 3) := by decide +kernel
theorem dL_law_1024 : decode cL_law 1024 = .ok (.aload_n 1, 1) := by decide +kernel
theorem dL_law_1025 : decode cL_law 1025 = .ok (.bipush 50, 2) := by decide +kernel
theorem dL_law_1027 : decode cL_law 1027 = .ok (.invokevirtual 248, 3) := by decide +kernel
theorem dL_law_1030 : decode cL_law 1030 = .ok (.ifCond .lt 32, 3) := by decide +kernel
theorem dL_law_1033 : decode cL_law 1033 = .ok (.aload_n 1, 1) := by decide +kernel
theorem dL_law_1034 : decode cL_law 1034 = .ok (.iconst 2, 1) := by decide +kernel
theorem dL_law_1035 : decode cL_law 1035 = .ok (.invokevirtual 251, 3) := by decide +kernel
theorem dL_law_1038 : decode cL_law 1038 = .ok (.ifCond .ne 24, 3) := by decide +kernel
theorem dL_law_1041 : decode cL_law 1041 = .ok (.aload_n 1, 1) := by decide +kernel
theorem dL_law_1042 : decode cL_law 1042 = .ok (.iconst 1, 1) := by decide +kernel
theorem dL_law_1043 : decode cL_law 1043 = .ok (.invokevirtual 251, 3) := by decide +kernel
theorem dL_law_1046 : decode cL_law 1046 = .ok (.iconst 2, 1) := by decide +kernel
theorem dL_law_1047 : decode cL_law 1047 = .ok (.if_icmp .ge 15, 3) := by decide +kernel
theorem dL_law_1050 : decode cL_law 1050 = .ok (.aload_n 1, 1) := by decide +kernel
theorem dL_law_1051 : decode cL_law 1051 = .ok (.iconst 0, 1) := by decide +kernel
theorem dL_law_1052 : decode cL_law 1052 = .ok (.invokevirtual 251, 3) := by decide +kernel
theorem dL_law_1055 : decode cL_law 1055 = .ok (.ifCond .ne 7, 3) := by decide +kernel
theorem dL_law_1058 : decode cL_law 1058 = .ok (.iconst 1, 1) := by decide +kernel
theorem dL_law_1059 : decode cL_law 1059 = .ok (.goto 4, 3) := by decide +kernel
theorem dL_law_1062 : decode cL_law 1062 = .ok (.iconst 0, 1) := by decide +kernel
theorem dL_law_1063 : decode cL_law 1063 = .ok (.istore 8, 2) := by decide +kernel
theorem dL_law_1065 : decode cL_law 1065 = .ok (.iload 8, 2) := by decide +kernel
theorem dL_law_1067 : decode cL_law 1067 = .ok (.ifCond .eq 32, 3) := by decide +kernel
theorem dL_law_1070 : decode cL_law 1070 = .ok (.iload 9, 2) := by decide +kernel
theorem dL_law_1072 : decode cL_law 1072 = .ok (.iconst 4, 1) := by decide +kernel
theorem dL_law_1073 : decode cL_law 1073 = .ok (.irem, 1) := by decide +kernel
theorem dL_law_1074 : decode cL_law 1074 = .ok (.iconst 3, 1) := by decide +kernel
theorem dL_law_1075 : decode cL_law 1075 = .ok (.if_icmp .lt 20, 3) := by decide +kernel
theorem dL_law_1078 : decode cL_law 1078 = .ok (.aload_n 1, 1) := by decide +kernel
theorem dL_law_1079 : decode cL_law 1079 = .ok (.aload_n 2, 1) := by decide +kernel
theorem dL_law_1080 : decode cL_law 1080 = .ok (.aload_n 3, 1) := by decide +kernel
theorem dL_law_1081 : decode cL_law 1081 = .ok (.aload 4, 2) := by decide +kernel
theorem dL_law_1083 : decode cL_law 1083 = .ok (.aload 5, 2) := by decide +kernel
theorem dL_law_1085 : decode cL_law 1085 = .ok (.aload 6, 2) := by decide +kernel
theorem dL_law_1087 : decode cL_law 1087 = .ok (.iload 12, 2) := by decide +kernel
theorem dL_law_1089 : decode cL_law 1089 = .ok (.invokestatic 227, 3) := by decide +kernel
theorem dL_law_1092 : decode cL_law 1092 = .ok (.ifCond .eq 7, 3) := by decide +kernel
theorem dL_law_1095 : decode cL_law 1095 = .ok (.iconst 1, 1) := by decide +kernel
theorem dL_law_1096 : decode cL_law 1096 = .ok (.goto 4, 3) := by decide +kernel
theorem dL_law_1099 : decode cL_law 1099 = .ok (.iconst 0, 1) := by decide +kernel
theorem dL_law_1100 : decode cL_law 1100 = .ok (.istore 8, 2) := by decide +kernel
theorem dL_law_1102 : decode cL_law 1102 = .ok (.iinc 9 1, 3) := by decide +kernel
theorem dL_law_1105 : decode cL_law 1105 = .ok (.goto (-1033), 3) := by decide +kernel
theorem dL_law_1108 : decode cL_law 1108 = .ok (.iload 8, 2) := by decide +kernel
theorem dL_law_1110 : decode cL_law 1110 = .ok (.ifCond .eq 23, 3) := by decide +kernel
theorem dL_law_1113 : decode cL_law 1113 = .ok (.aload_n 1, 1) := by decide +kernel
theorem dL_law_1114 : decode cL_law 1114 = .ok (.aload_n 2, 1) := by decide +kernel
theorem dL_law_1115 : decode cL_law 1115 = .ok (.aload_n 3, 1) := by decide +kernel
theorem dL_law_1116 : decode cL_law 1116 = .ok (.aload 4, 2) := by decide +kernel
theorem dL_law_1118 : decode cL_law 1118 = .ok (.aload 5, 2) := by decide +kernel
theorem dL_law_1120 : decode cL_law 1120 = .ok (.aload 6, 2) := by decide +kernel
theorem dL_law_1122 : decode cL_law 1122 = .ok (.iconst 5, 1) := by decide +kernel
theorem dL_law_1123 : decode cL_law 1123 = .ok (.invokestatic 227, 3) := by decide +kernel
theorem dL_law_1126 : decode cL_law 1126 = .ok (.ifCond .eq 7, 3) := by decide +kernel
theorem dL_law_1129 : decode cL_law 1129 = .ok (.iconst 1, 1) := by decide +kernel
theorem dL_law_1130 : decode cL_law 1130 = .ok (.goto 4, 3) := by decide +kernel
theorem dL_law_1133 : decode cL_law 1133 = .ok (.iconst 0, 1) := by decide +kernel
theorem dL_law_1134 : decode cL_law 1134 = .ok (.ireturn, 1) := by decide +kernel
abbrev mLaw (nm : String) (hh : List (Nat × Nat × Nat × Nat)) : gM := (⟨RL, nm, "([I)Z"⟩, cL_law, 18, some .boolean, hh)
theorem ccL_105 : Cond.classLink RL 105 (hk_C 9) ∈ XW := xw 50 (by decide +kernel) rfl
theorem ins_9 : Cond.instantiable (hk_C 9) (hk_N 9) ∈ XW := xw 51 (by decide +kernel) rfl
theorem ini_9 : Cond.initialized (hk_C 9) ∈ XW := xw 29 (by decide +kernel) rfl
theorem lkL_226 : Cond.methodLink RL 226 yX10_init ∈ XW := xw 52 (by decide +kernel) rfl
theorem lkL_227 : Cond.methodLink RL 227 yL_isDesk ∈ XW := xw 1130 (by decide +kernel) rfl
theorem ctL_232 : Cond.constant RL 232 (51031 : Int32) ∈ XW := xw 1269 (by decide +kernel) rfl
theorem ctL_231 : Cond.constant RL 231 (2147483647 : Int32) ∈ XW := xw 1268 (by decide +kernel) rfl
theorem lkL_237 : Cond.methodLink RL 237 yL_removes ∈ XW := xw 1262 (by decide +kernel) rfl
theorem lkL_240 : Cond.methodLink RL 240 yL_set ∈ XW := xw 875 (by decide +kernel) rfl
theorem lkL_242 : Cond.methodLink RL 242 yL_presses ∈ XW := xw 909 (by decide +kernel) rfl
theorem lkL_245 : Cond.methodLink RL 245 yX10_chord ∈ XW := xw 472 (by decide +kernel) rfl
theorem lkL_233 : Cond.methodLink RL 233 yL_isAdded ∈ XW := xw 1265 (by decide +kernel) rfl
theorem lkL_251 : Cond.methodLink RL 251 yX10_waiting ∈ XW := xw 855 (by decide +kernel) rfl
theorem lkL_248 : Cond.methodLink RL 248 yX10_tick ∈ XW := xw 793 (by decide +kernel) rfl
/-! law -/
theorem lL_law_161 {G : gG} {Q : hQ} {KE : Int32 → Prop} {k n : Nat} {nm : String} {hh : List (Nat × Nat × Nat × Nat)} (c1 : (Option Nat)) (c2 : (Option Nat)) (c3 : (Option Nat)) (c4 : (Option Nat)) (c5 : (Option Nat)) (c6 : (Option Nat)) (c7 : (Option Nat)) (c9 : Int32) (c11 : Int32) (c12 : Int32) (h : hp) (hJ : ∀ q : Int32, KE q → gV G (mLaw nm hh) 60 Q 202 [some (sr (some (gxb G))), some (sr c1), some (sr c2), some (sr c3), some (sr c4), some (sr c5), some (sr c6), some (sr c7), none, some (si c9), none, some (si c11), some (si c12), some (si q), none, none, none, none] [] (k) (n) h) : ∀ (fu : Nat) (a : (Int32 × Int32)), itrW (fL_law_B161 G c1 c2 c3 c4 c5 c6 c7 c9 c11 c12 h) fu a KE → gV G (mLaw nm hh) 60 Q 161 [some (sr (some (gxb G))), some (sr c1), some (sr c2), some (sr c3), some (sr c4), some (sr c5), some (sr c6), some (sr c7), none, some (si c9), none, some (si c11), some (si c12), some (si a.1), some (si a.2), none, none, none] [] (k) (n) h :=
  lpW (X := fun (m : Nat) (a : (Int32 × Int32)) => gV G (mLaw nm hh) 60 Q 161 [some (sr (some (gxb G))), some (sr c1), some (sr c2), some (sr c3), some (sr c4), some (sr c5), some (sr c6), some (sr c7), none, some (si c9), none, some (si c11), some (si c12), some (si a.1), some (si a.2), none, none, none] [] (k) (n) h) (fun m a P1 hL hF => by
    delta fL_law_B161 at hF
    refine v_iload (pc := 161) (i := 14) dL_law_161 rfl ?_
    refine v_aload_n (pc := 163) (i := 2) dL_law_163 rfl rfl ?_
    refine v_iconst (pc := 164) (v := (0 : Int32)) dL_law_164 rfl ?_
    refine s_iald (f := some) (pc := 165) dL_law_165 (okB_bs hF) (fun x1 hF => ?_)
    replace hF := okB_some hF
    refine v_icmp_ge (pc := 166) 202 dL_law_166 rfl (fun hc => ?_) (fun hc => ?_)
    · replace hF := (ifP hF).1 hc
      exact v_lle [some (sr (some (gxb G))), some (sr c1), some (sr c2), some (sr c3), some (sr c4), some (sr c5), some (sr c6), some (sr c7), none, some (si c9), none, some (si c11), some (si c12), some (si a.1), none, none, none, none] ⟨rfl, rfl, rfl, rfl, rfl, rfl, rfl, rfl, rfl, rfl, rfl, rfl, trivial⟩ (hJ a.1 hF)
    replace hF := (ifP hF).2 hc
    refine v_iload (pc := 169) (i := 12) dL_law_169 rfl ?_
    refine v_bipush (pc := 171) (v := (7 : Int32)) dL_law_171 rfl ?_
    refine s_irem (f := some) (pc := 173) dL_law_173 (okB_bs hF) (fun hF => ?_)
    replace hF := okB_some hF
    refine v_if_le (pc := 174) 202 dL_law_174 rfl (fun hc => ?_) (fun hc => ?_)
    · replace hF := (ifP hF).1 hc
      exact v_lle [some (sr (some (gxb G))), some (sr c1), some (sr c2), some (sr c3), some (sr c4), some (sr c5), some (sr c6), some (sr c7), none, some (si c9), none, some (si c11), some (si c12), some (si a.1), none, none, none, none] ⟨rfl, rfl, rfl, rfl, rfl, rfl, rfl, rfl, rfl, rfl, rfl, rfl, trivial⟩ (hJ a.1 hF)
    replace hF := (ifP hF).2 hc
    refine v_aload_n (pc := 177) (i := 3) dL_law_177 rfl rfl ?_
    refine v_iload (pc := 178) (i := 13) dL_law_178 rfl ?_
    refine yp_S (pc := 180) gI (as := [sr c3, si a.1]) (st := []) (N := mL_isThere) (k := k) (n := n) (k1 := 0) (n1 := 0) dL_law_180 lkL_7 caL_isThere csL_isThere rfl (fun Q1 hq => tL_isThere c3 a.1 h Q1 hq) ⟨by decide, by decide⟩ (Nat.le_of_ble_eq_true rfl) hF (fun x2 hF => ?_)
    show gV G (mLaw nm hh) 60 Q 183 [some (sr (some (gxb G))), some (sr c1), some (sr c2), some (sr c3), some (sr c4), some (sr c5), some (sr c6), some (sr c7), none, some (si c9), none, some (si c11), some (si c12), some (si a.1), some (si a.2), none, none, none] [si x2] (k) (n) h
    refine v_if_ne (pc := 183) 202 dL_law_183 rfl (fun hc => ?_) (fun hc => ?_)
    · replace hF := (ifP hF).2 hc
      exact v_lle [some (sr (some (gxb G))), some (sr c1), some (sr c2), some (sr c3), some (sr c4), some (sr c5), some (sr c6), some (sr c7), none, some (si c9), none, some (si c11), some (si c12), some (si a.1), none, none, none, none] ⟨rfl, rfl, rfl, rfl, rfl, rfl, rfl, rfl, rfl, rfl, rfl, rfl, trivial⟩ (hJ a.1 hF)
    replace hF := (ifP hF).1 hc
    refine v_iload (pc := 186) (i := 13) dL_law_186 rfl ?_
    refine v_iconst (pc := 188) (v := (1 : Int32)) dL_law_188 rfl ?_
    refine v_iadd (pc := 189) dL_law_189 ?_
    refine v_aload_n (pc := 190) (i := 2) dL_law_190 rfl rfl ?_
    refine v_iconst (pc := 191) (v := (0 : Int32)) dL_law_191 rfl ?_
    refine s_iald (f := some) (pc := 192) dL_law_192 (okB_bs hF) (fun x3 hF => ?_)
    replace hF := okB_some hF
    refine s_irem (f := some) (pc := 193) dL_law_193 (okB_bs hF) (fun hF => ?_)
    replace hF := okB_some hF
    refine v_istore (pc := 194) (i := 13) [some (sr (some (gxb G))), some (sr c1), some (sr c2), some (sr c3), some (sr c4), some (sr c5), some (sr c6), some (sr c7), none, some (si c9), none, some (si c11), some (si c12), some (si ((a.1 + (1 : Int32)) - (a.1 + (1 : Int32)) / x3 * x3)), some (si a.2), none, none, none] dL_law_194 (show 13 < 18 by decide) rfl rfl ?_
    refine v_iinc (pc := 196) (i := 14) (a.2 + (1 : Int32)) [some (sr (some (gxb G))), some (sr c1), some (sr c2), some (sr c3), some (sr c4), some (sr c5), some (sr c6), some (sr c7), none, some (si c9), none, some (si c11), some (si c12), some (si ((a.1 + (1 : Int32)) - (a.1 + (1 : Int32)) / x3 * x3)), some (si (a.2 + (1 : Int32))), none, none, none] dL_law_196 rfl rfl rfl rfl ?_
    refine v_goto (pc := 199) 161 dL_law_199 rfl ?_
    exact v_lle [some (sr (some (gxb G))), some (sr c1), some (sr c2), some (sr c3), some (sr c4), some (sr c5), some (sr c6), some (sr c7), none, some (si c9), none, some (si c11), some (si c12), some (si ((a.1 + (1 : Int32)) - (a.1 + (1 : Int32)) / x3 * x3)), some (si (a.2 + (1 : Int32))), none, none, none] ⟨rfl, rfl, rfl, rfl, rfl, rfl, rfl, rfl, rfl, rfl, rfl, rfl, rfl, trivial⟩ (hL ((a.1 + (1 : Int32)) - (a.1 + (1 : Int32)) / x3 * x3, a.2 + (1 : Int32)) hF))
theorem lL_law_72 {G : gG} {Q : hQ} {KE : (Int32 × hp) → Prop} {k n : Nat} {nm : String} {hh : List (Nat × Nat × Nat × Nat)} (c1 : (Option Nat)) (c2 : (Option Nat)) (c3 : (Option Nat)) (c4 : (Option Nat)) (c5 : (Option Nat)) (c6 : (Option Nat)) (c7 : (Option Nat)) (hJ : ∀ q : (Int32 × hp), KE q → gV G (mLaw nm hh) 60 Q 1108 [none, some (sr c1), some (sr c2), some (sr c3), some (sr c4), some (sr c5), some (sr c6), none, some (si q.1), none, none, none, none, none, none, none, none, none] [] (k) (n) q.2) : ∀ (fu : Nat) (a : (Int32 × Int32 × hp)), itrW (fL_law_B72 G c1 c2 c3 c4 c5 c6 c7) fu a KE → gV G (mLaw nm hh) 60 Q 72 [some (sr (some (gxb G))), some (sr c1), some (sr c2), some (sr c3), some (sr c4), some (sr c5), some (sr c6), some (sr c7), some (si a.1), some (si a.2.1), none, none, none, none, none, none, none, none] [] (397 * fu + k) (3018 * fu + n) a.2.2 :=
  lpW (X := fun (m : Nat) (a : (Int32 × Int32 × hp)) => gV G (mLaw nm hh) 60 Q 72 [some (sr (some (gxb G))), some (sr c1), some (sr c2), some (sr c3), some (sr c4), some (sr c5), some (sr c6), some (sr c7), some (si a.1), some (si a.2.1), none, none, none, none, none, none, none, none] [] (397 * m + k) (3018 * m + n) a.2.2) (fun m a P1 hL hF => by
    delta fL_law_B72 at hF
    refine v_room (k' := 397 * m + k + 397) (n' := 3018 * m + n + 3018) (by omega) (by omega) ?_
    refine v_iload (pc := 72) (i := 9) dL_law_72 rfl ?_
    refine v_sipush (pc := 74) (v := (130 : Int32)) dL_law_74 rfl ?_
    refine v_icmp_ge (pc := 77) 1108 dL_law_77 rfl (fun hc => ?_) (fun hc => ?_)
    · replace hF := (ifP hF).1 hc
      exact v_room (k' := k) (n' := n) (by omega) (by omega) <| v_lle [none, some (sr c1), some (sr c2), some (sr c3), some (sr c4), some (sr c5), some (sr c6), none, some (si a.1), none, none, none, none, none, none, none, none, none] ⟨rfl, rfl, rfl, rfl, rfl, rfl, rfl, trivial⟩ (hJ (a.1, a.2.2) hF)
    replace hF := (ifP hF).2 hc
    refine v_iload (pc := 80) (i := 8) dL_law_80 rfl ?_
    refine v_if_eq (pc := 82) 1108 dL_law_82 rfl (fun hc => ?_) (fun hc => ?_)
    · replace hF := (ifP hF).1 hc
      exact v_room (k' := k) (n' := n) (by omega) (by omega) <| v_lle [none, some (sr c1), some (sr c2), some (sr c3), some (sr c4), some (sr c5), some (sr c6), none, some (si a.1), none, none, none, none, none, none, none, none, none] ⟨rfl, rfl, rfl, rfl, rfl, rfl, rfl, trivial⟩ (hJ (a.1, a.2.2) hF)
    replace hF := (ifP hF).2 hc
    refine v_iload (pc := 85) (i := 9) dL_law_85 rfl ?_
    refine v_aload_n (pc := 87) (i := 0) dL_law_87 rfl rfl ?_
    refine v_slen (pc := 88) dL_law_88 ?_
    refine mgW (X := fun q1 => gV G (mLaw nm hh) 60 Q 123 [some (sr (some (gxb G))), some (sr c1), some (sr c2), some (sr c3), some (sr c4), some (sr c5), some (sr c6), some (sr c7), none, some (si a.2.1), none, none, none, none, none, none, none, none] [si q1] (397 * m + k + 397) (3018 * m + n + 3018) a.2.2) hF (fun K1 hj1 hF => ?_) (fun q1 hF => ?_)
    · refine v_icmp_ge (pc := 89) 102 dL_law_89 rfl (fun hc => ?_) (fun hc => ?_)
      · replace hF := (ifP hF).1 hc
        refine v_ldc (pc := 102) (v := (51031 : Int32)) dL_law_102 ctL_232 ?_
        refine v_iload (pc := 104) (i := 9) dL_law_104 rfl ?_
        refine v_imul (pc := 106) dL_law_106 ?_
        refine v_iload (pc := 107) (i := 9) dL_law_107 rfl ?_
        refine v_imul (pc := 109) dL_law_109 ?_
        refine v_sipush (pc := 110) (v := (9001 : Int32)) dL_law_110 rfl ?_
        refine v_iload (pc := 113) (i := 9) dL_law_113 rfl ?_
        refine v_imul (pc := 115) dL_law_115 ?_
        refine v_iadd (pc := 116) dL_law_116 ?_
        refine v_bipush (pc := 117) (v := (43 : Int32)) dL_law_117 rfl ?_
        refine v_iadd (pc := 119) dL_law_119 ?_
        refine v_ldc (pc := 120) (v := (2147483647 : Int32)) dL_law_120 ctL_231 ?_
        refine v_iand (pc := 122) dL_law_122 ?_
        exact v_lle [some (sr (some (gxb G))), some (sr c1), some (sr c2), some (sr c3), some (sr c4), some (sr c5), some (sr c6), some (sr c7), none, some (si a.2.1), none, none, none, none, none, none, none, none] ⟨rfl, rfl, rfl, rfl, rfl, rfl, rfl, rfl, rfl, trivial⟩ (hj1 ((((((51031 : Int32) * a.2.1) * a.2.1) + ((9001 : Int32) * a.2.1)) + (43 : Int32)) &&& (2147483647 : Int32)) hF)
      replace hF := (ifP hF).2 hc
      refine v_aload_n (pc := 92) (i := 0) dL_law_92 rfl rfl ?_
      refine v_iload (pc := 93) (i := 9) dL_law_93 rfl ?_
      refine s_sld (pc := 95) dL_law_95 hF (fun hF => ?_)
      refine v_ldc (pc := 96) (v := (2147483647 : Int32)) dL_law_96 ctL_231 ?_
      refine v_iand (pc := 98) dL_law_98 ?_
      refine v_goto (pc := 99) 123 dL_law_99 rfl ?_
      exact v_lle [some (sr (some (gxb G))), some (sr c1), some (sr c2), some (sr c3), some (sr c4), some (sr c5), some (sr c6), some (sr c7), none, some (si a.2.1), none, none, none, none, none, none, none, none] ⟨rfl, rfl, rfl, rfl, rfl, rfl, rfl, rfl, rfl, trivial⟩ (hj1 ((gxx G (a.2.1).toNatClampNeg) &&& (2147483647 : Int32)) hF)
    refine v_istore (pc := 123) (i := 10) [some (sr (some (gxb G))), some (sr c1), some (sr c2), some (sr c3), some (sr c4), some (sr c5), some (sr c6), some (sr c7), none, some (si a.2.1), some (si q1), none, none, none, none, none, none, none] dL_law_123 (show 10 < 18 by decide) rfl rfl ?_
    refine v_iload (pc := 125) (i := 9) dL_law_125 rfl ?_
    refine v_bipush (pc := 127) (v := (6 : Int32)) dL_law_127 rfl ?_
    refine mgW (X := fun q2 => gV G (mLaw nm hh) 60 Q 141 [some (sr (some (gxb G))), some (sr c1), some (sr c2), some (sr c3), some (sr c4), some (sr c5), some (sr c6), some (sr c7), none, some (si a.2.1), some (si q1), none, none, none, none, none, none, none] [si q2] (397 * m + k + 397) (3018 * m + n + 3018) a.2.2) hF (fun K2 hj2 hF => ?_) (fun q2 hF => ?_)
    · refine v_icmp_ge (pc := 129) 136 dL_law_129 rfl (fun hc => ?_) (fun hc => ?_)
      · replace hF := (ifP hF).1 hc
        refine v_iload (pc := 136) (i := 10) dL_law_136 rfl ?_
        refine v_bipush (pc := 138) (v := (26 : Int32)) dL_law_138 rfl ?_
        refine s_irem (f := some) (pc := 140) dL_law_140 (okB_bs hF) (fun hF => ?_)
        replace hF := okB_some hF
        exact v_lle [some (sr (some (gxb G))), some (sr c1), some (sr c2), some (sr c3), some (sr c4), some (sr c5), some (sr c6), some (sr c7), none, some (si a.2.1), some (si q1), none, none, none, none, none, none, none] ⟨rfl, rfl, rfl, rfl, rfl, rfl, rfl, rfl, rfl, rfl, trivial⟩ (hj2 (q1 - q1 / (26 : Int32) * (26 : Int32)) hF)
      replace hF := (ifP hF).2 hc
      refine v_iconst (pc := 132) (v := (0 : Int32)) dL_law_132 rfl ?_
      refine v_goto (pc := 133) 141 dL_law_133 rfl ?_
      exact v_lle [some (sr (some (gxb G))), some (sr c1), some (sr c2), some (sr c3), some (sr c4), some (sr c5), some (sr c6), some (sr c7), none, some (si a.2.1), some (si q1), none, none, none, none, none, none, none] ⟨rfl, rfl, rfl, rfl, rfl, rfl, rfl, rfl, rfl, rfl, trivial⟩ (hj2 (0 : Int32) hF)
    refine v_istore (pc := 141) (i := 11) [some (sr (some (gxb G))), some (sr c1), some (sr c2), some (sr c3), some (sr c4), some (sr c5), some (sr c6), some (sr c7), none, some (si a.2.1), some (si q1), some (si q2), none, none, none, none, none, none] dL_law_141 (show 11 < 18 by decide) rfl rfl ?_
    refine v_iload (pc := 143) (i := 10) dL_law_143 rfl ?_
    refine v_bipush (pc := 145) (v := (26 : Int32)) dL_law_145 rfl ?_
    refine s_idiv (f := some) (pc := 147) dL_law_147 (okB_bs hF) (fun hF => ?_)
    replace hF := okB_some hF
    refine v_istore (pc := 148) (i := 12) [some (sr (some (gxb G))), some (sr c1), some (sr c2), some (sr c3), some (sr c4), some (sr c5), some (sr c6), some (sr c7), none, some (si a.2.1), some (si q1), some (si q2), some (si (q1 / (26 : Int32))), none, none, none, none, none] dL_law_148 (show 12 < 18 by decide) rfl rfl ?_
    refine v_iload (pc := 150) (i := 12) dL_law_150 rfl ?_
    refine v_aload_n (pc := 152) (i := 2) dL_law_152 rfl rfl ?_
    refine v_iconst (pc := 153) (v := (0 : Int32)) dL_law_153 rfl ?_
    refine s_iald (f := some) (pc := 154) dL_law_154 (okB_bs hF) (fun x3 hF => ?_)
    replace hF := okB_some hF
    refine s_irem (f := some) (pc := 155) dL_law_155 (okB_bs hF) (fun hF => ?_)
    replace hF := okB_some hF
    refine v_istore (pc := 156) (i := 13) [some (sr (some (gxb G))), some (sr c1), some (sr c2), some (sr c3), some (sr c4), some (sr c5), some (sr c6), some (sr c7), none, some (si a.2.1), some (si q1), some (si q2), some (si (q1 / (26 : Int32))), some (si ((q1 / (26 : Int32)) - (q1 / (26 : Int32)) / x3 * x3)), none, none, none, none] dL_law_156 (show 13 < 18 by decide) rfl rfl ?_
    refine v_iconst (pc := 158) (v := (0 : Int32)) dL_law_158 rfl ?_
    refine v_istore (pc := 159) (i := 14) [some (sr (some (gxb G))), some (sr c1), some (sr c2), some (sr c3), some (sr c4), some (sr c5), some (sr c6), some (sr c7), none, some (si a.2.1), some (si q1), some (si q2), some (si (q1 / (26 : Int32))), some (si ((q1 / (26 : Int32)) - (q1 / (26 : Int32)) / x3 * x3)), some (si (0 : Int32)), none, none, none] dL_law_159 (show 14 < 18 by decide) rfl rfl ?_
    refine mgW (X := fun q4 => gV G (mLaw nm hh) 60 Q 202 [some (sr (some (gxb G))), some (sr c1), some (sr c2), some (sr c3), some (sr c4), some (sr c5), some (sr c6), some (sr c7), none, some (si a.2.1), none, some (si q2), some (si (q1 / (26 : Int32))), some (si q4), none, none, none, none] [] (397 * m + k + 397) (3018 * m + n + 3018) a.2.2) hF (fun _ hj hF => v_lle [some (sr (some (gxb G))), some (sr c1), some (sr c2), some (sr c3), some (sr c4), some (sr c5), some (sr c6), some (sr c7), none, some (si a.2.1), none, some (si q2), some (si (q1 / (26 : Int32))), some (si ((q1 / (26 : Int32)) - (q1 / (26 : Int32)) / x3 * x3)), some (si (0 : Int32)), none, none, none] ⟨rfl, rfl, rfl, rfl, rfl, rfl, rfl, rfl, rfl, rfl, rfl, rfl, rfl, trivial⟩ (lL_law_161 c1 c2 c3 c4 c5 c6 c7 a.2.1 q2 (q1 / (26 : Int32)) a.2.2 hj FU ((q1 / (26 : Int32)) - (q1 / (26 : Int32)) / x3 * x3, (0 : Int32)) hF)) (fun q4 hF => ?_)
    refine v_aload_n (pc := 202) (i := 3) dL_law_202 rfl rfl ?_
    refine v_iload (pc := 203) (i := 13) dL_law_203 rfl ?_
    refine yp_S (pc := 205) gI (as := [sr c3, si q4]) (st := []) (N := mL_isThere) (k := 397 * m + k + 397) (n := 3018 * m + n + 3018) (k1 := 0) (n1 := 0) dL_law_205 lkL_7 caL_isThere csL_isThere rfl (fun Q1 hq => tL_isThere c3 q4 a.2.2 Q1 hq) ⟨by decide, by decide⟩ (Nat.le_of_ble_eq_true rfl) hF (fun x5 hF => ?_)
    show gV G (mLaw nm hh) 60 Q 208 [some (sr (some (gxb G))), some (sr c1), some (sr c2), some (sr c3), some (sr c4), some (sr c5), some (sr c6), some (sr c7), none, some (si a.2.1), none, some (si q2), some (si (q1 / (26 : Int32))), some (si q4), none, none, none, none] [si x5] (397 * m + k + 397) (3018 * m + n + 3018) a.2.2
    refine v_istore (pc := 208) (i := 14) [some (sr (some (gxb G))), some (sr c1), some (sr c2), some (sr c3), some (sr c4), some (sr c5), some (sr c6), some (sr c7), none, some (si a.2.1), none, some (si q2), some (si (q1 / (26 : Int32))), some (si q4), some (si x5), none, none, none] dL_law_208 (show 14 < 18 by decide) rfl rfl ?_
    refine v_iload (pc := 210) (i := 11) dL_law_210 rfl ?_
    refine v_iconst (pc := 212) (v := (4 : Int32)) dL_law_212 rfl ?_
    refine mgW (X := fun q6 => gV G (mLaw nm hh) 60 Q 950 [some (sr (some (gxb G))), some (sr c1), some (sr c2), some (sr c3), some (sr c4), some (sr c5), some (sr c6), some (sr c7), some (si q6.1), some (si a.2.1), none, some (si q2), some (si (q1 / (26 : Int32))), none, none, none, none, none] [] (397 * m + k + 383) (3018 * m + n + 2651) q6.2) hF (fun K6 hj6 hF => ?_) (fun q6 hF => ?_)
    · refine v_icmp_ge (pc := 213) 344 dL_law_213 rfl (fun hc => ?_) (fun hc => ?_)
      · replace hF := (ifP hF).1 hc
        refine v_iload (pc := 344) (i := 11) dL_law_344 rfl ?_
        refine v_iconst (pc := 346) (v := (4 : Int32)) dL_law_346 rfl ?_
        refine mgW (X := fun q7 => gV G (mLaw nm hh) 60 Q 410 [some (sr (some (gxb G))), some (sr c1), some (sr c2), some (sr c3), some (sr c4), some (sr c5), some (sr c6), some (sr c7), none, some (si a.2.1), none, some (si q2), some (si (q1 / (26 : Int32))), some (si q4), some (si x5), none, none, none] [] (397 * m + k + 397) (3018 * m + n + 3018) a.2.2) hF (fun K7 hj7 hF => ?_) (fun q7 hF => ?_)
        · refine v_icmp_ne (pc := 347) 410 dL_law_347 rfl (fun hc => ?_) (fun hc => ?_)
          · replace hF := (ifP hF).2 hc
            exact v_lle [some (sr (some (gxb G))), some (sr c1), some (sr c2), some (sr c3), some (sr c4), some (sr c5), some (sr c6), some (sr c7), none, some (si a.2.1), none, some (si q2), some (si (q1 / (26 : Int32))), some (si q4), some (si x5), none, none, none] ⟨rfl, rfl, rfl, rfl, rfl, rfl, rfl, rfl, rfl, rfl, rfl, rfl, rfl, trivial⟩ (hj7 () hF)
          replace hF := (ifP hF).1 hc
          refine v_iload (pc := 350) (i := 12) dL_law_350 rfl ?_
          refine v_iconst (pc := 352) (v := (3 : Int32)) dL_law_352 rfl ?_
          refine s_irem (f := some) (pc := 353) dL_law_353 (okB_bs hF) (fun hF => ?_)
          replace hF := okB_some hF
          refine v_if_ne (pc := 354) 410 dL_law_354 rfl (fun hc => ?_) (fun hc => ?_)
          · replace hF := (ifP hF).2 hc
            exact v_lle [some (sr (some (gxb G))), some (sr c1), some (sr c2), some (sr c3), some (sr c4), some (sr c5), some (sr c6), some (sr c7), none, some (si a.2.1), none, some (si q2), some (si (q1 / (26 : Int32))), some (si q4), some (si x5), none, none, none] ⟨rfl, rfl, rfl, rfl, rfl, rfl, rfl, rfl, rfl, rfl, rfl, rfl, rfl, trivial⟩ (hj7 () hF)
          replace hF := (ifP hF).1 hc
          refine v_iload (pc := 357) (i := 14) dL_law_357 rfl ?_
          refine mgW (X := fun q8 => gV G (mLaw nm hh) 60 Q 384 [some (sr (some (gxb G))), some (sr c1), some (sr c2), some (sr c3), some (sr c4), some (sr c5), some (sr c6), some (sr c7), none, some (si a.2.1), none, some (si q2), some (si (q1 / (26 : Int32))), some (si q4), none, none, none, none] [si q8.1] (397 * m + k + 393) (3018 * m + n + 2994) q8.2) hF (fun K8 hj8 hF => ?_) (fun q8 hF => ?_)
          · refine v_if_ne (pc := 359) 367 dL_law_359 rfl (fun hc => ?_) (fun hc => ?_)
            · replace hF := (ifP hF).2 hc
              refine v_iload (pc := 367) (i := 13) dL_law_367 rfl ?_
              refine v_if_ne (pc := 369) 377 dL_law_369 rfl (fun hc => ?_) (fun hc => ?_)
              · replace hF := (ifP hF).2 hc
                refine v_aload_n (pc := 377) (i := 2) dL_law_377 rfl rfl ?_
                refine v_aload_n (pc := 378) (i := 3) dL_law_378 rfl rfl ?_
                refine v_iload (pc := 379) (i := 13) dL_law_379 rfl ?_
                refine yh_S (pc := 381) gI (as := [sr c2, sr c3, si q4]) (st := []) (N := mL_removes) (k := 397 * m + k + 397) (n := 3018 * m + n + 3018) (k1 := 0) (n1 := 0) dL_law_381 lkL_237 caL_removes csL_removes rfl (fun Q1 hq => tL_removes c2 c3 q4 a.2.2 Q1 hq) ⟨by decide, by decide⟩ (Nat.le_of_ble_eq_true rfl) hF (fun x9 h10 hF => ?_)
                show gV G (mLaw nm hh) 60 Q 384 [some (sr (some (gxb G))), some (sr c1), some (sr c2), some (sr c3), some (sr c4), some (sr c5), some (sr c6), some (sr c7), none, some (si a.2.1), none, some (si q2), some (si (q1 / (26 : Int32))), some (si q4), some (si x5), none, none, none] [si x9] (397 * m + k + 397) (3018 * m + n + 3018) h10
                exact v_room (k' := 397 * m + k + 393) (n' := 3018 * m + n + 2994) (by omega) (by omega) <| v_lle [some (sr (some (gxb G))), some (sr c1), some (sr c2), some (sr c3), some (sr c4), some (sr c5), some (sr c6), some (sr c7), none, some (si a.2.1), none, some (si q2), some (si (q1 / (26 : Int32))), some (si q4), none, none, none, none] ⟨rfl, rfl, rfl, rfl, rfl, rfl, rfl, rfl, rfl, rfl, rfl, rfl, trivial⟩ (hj8 (x9, h10) hF)
              replace hF := (ifP hF).1 hc
              refine v_bipush (pc := 372) (v := (-13 : Int32)) dL_law_372 rfl ?_
              refine v_goto (pc := 374) 384 dL_law_374 rfl ?_
              exact v_room (k' := 397 * m + k + 393) (n' := 3018 * m + n + 2994) (by omega) (by omega) <| v_lle [some (sr (some (gxb G))), some (sr c1), some (sr c2), some (sr c3), some (sr c4), some (sr c5), some (sr c6), some (sr c7), none, some (si a.2.1), none, some (si q2), some (si (q1 / (26 : Int32))), some (si q4), none, none, none, none] ⟨rfl, rfl, rfl, rfl, rfl, rfl, rfl, rfl, rfl, rfl, rfl, rfl, trivial⟩ (hj8 ((-13 : Int32), a.2.2) hF)
            replace hF := (ifP hF).1 hc
            refine v_bipush (pc := 362) (v := (-11 : Int32)) dL_law_362 rfl ?_
            refine v_goto (pc := 364) 384 dL_law_364 rfl ?_
            exact v_room (k' := 397 * m + k + 393) (n' := 3018 * m + n + 2994) (by omega) (by omega) <| v_lle [some (sr (some (gxb G))), some (sr c1), some (sr c2), some (sr c3), some (sr c4), some (sr c5), some (sr c6), some (sr c7), none, some (si a.2.1), none, some (si q2), some (si (q1 / (26 : Int32))), some (si q4), none, none, none, none] ⟨rfl, rfl, rfl, rfl, rfl, rfl, rfl, rfl, rfl, rfl, rfl, rfl, trivial⟩ (hj8 ((-11 : Int32), a.2.2) hF)
          refine v_istore (pc := 384) (i := 15) [some (sr (some (gxb G))), some (sr c1), some (sr c2), some (sr c3), some (sr c4), some (sr c5), some (sr c6), some (sr c7), none, some (si a.2.1), none, some (si q2), some (si (q1 / (26 : Int32))), some (si q4), none, some (si q8.1), none, none] dL_law_384 (show 15 < 18 by decide) rfl rfl ?_
          refine v_aload_n (pc := 386) (i := 1) dL_law_386 rfl rfl ?_
          refine v_iconst (pc := 387) (v := (1 : Int32)) dL_law_387 rfl ?_
          refine v_iload (pc := 388) (i := 13) dL_law_388 rfl ?_
          refine v_iconst (pc := 390) (v := (0 : Int32)) dL_law_390 rfl ?_
          refine v_iconst (pc := 391) (v := (0 : Int32)) dL_law_391 rfl ?_
          refine ye_S (pc := 392) (as := [sr c1, si (1 : Int32), si q4, si (0 : Int32), si (0 : Int32)]) (st := []) (N := mL_does) (k := 397 * m + k + 383) (n := 3018 * m + n + 2651) (k1 := 10) (n1 := 343) dL_law_392 lkL_194 caL_does rfl (fun Q1 hq => tL_does c1 (1 : Int32) q4 (0 : Int32) (0 : Int32) q8.2 Q1 hq) ⟨by decide, by decide⟩ (Nat.le_of_ble_eq_true rfl) hF (fun x11 h12 hF => ?_)
          show gV G (mLaw nm hh) 60 Q 395 [some (sr (some (gxb G))), some (sr c1), some (sr c2), some (sr c3), some (sr c4), some (sr c5), some (sr c6), some (sr c7), none, some (si a.2.1), none, some (si q2), some (si (q1 / (26 : Int32))), some (si q4), none, some (si q8.1), none, none] [si x11] (397 * m + k + 383) (3018 * m + n + 2651) h12
          refine v_iload (pc := 395) (i := 15) dL_law_395 rfl ?_
          refine v_icmp_ne (pc := 397) 404 dL_law_397 rfl (fun hc => ?_) (fun hc => ?_)
          · replace hF := (ifP hF).2 hc
            refine v_iconst (pc := 404) (v := (0 : Int32)) dL_law_404 rfl ?_
            refine v_istore (pc := 405) (i := 8) [some (sr (some (gxb G))), some (sr c1), some (sr c2), some (sr c3), some (sr c4), some (sr c5), some (sr c6), some (sr c7), some (si (0 : Int32)), some (si a.2.1), none, some (si q2), some (si (q1 / (26 : Int32))), some (si q4), none, some (si q8.1), none, none] dL_law_405 (show 8 < 18 by decide) rfl rfl ?_
            refine v_goto (pc := 407) 950 dL_law_407 rfl ?_
            exact v_lle [some (sr (some (gxb G))), some (sr c1), some (sr c2), some (sr c3), some (sr c4), some (sr c5), some (sr c6), some (sr c7), some (si (0 : Int32)), some (si a.2.1), none, some (si q2), some (si (q1 / (26 : Int32))), none, none, none, none, none] ⟨rfl, rfl, rfl, rfl, rfl, rfl, rfl, rfl, rfl, rfl, rfl, rfl, trivial⟩ (hj6 ((0 : Int32), h12) hF)
          replace hF := (ifP hF).1 hc
          refine v_iconst (pc := 400) (v := (1 : Int32)) dL_law_400 rfl ?_
          refine v_goto (pc := 401) 405 dL_law_401 rfl ?_
          refine v_istore (pc := 405) (i := 8) [some (sr (some (gxb G))), some (sr c1), some (sr c2), some (sr c3), some (sr c4), some (sr c5), some (sr c6), some (sr c7), some (si (1 : Int32)), some (si a.2.1), none, some (si q2), some (si (q1 / (26 : Int32))), some (si q4), none, some (si q8.1), none, none] dL_law_405 (show 8 < 18 by decide) rfl rfl ?_
          refine v_goto (pc := 407) 950 dL_law_407 rfl ?_
          exact v_lle [some (sr (some (gxb G))), some (sr c1), some (sr c2), some (sr c3), some (sr c4), some (sr c5), some (sr c6), some (sr c7), some (si (1 : Int32)), some (si a.2.1), none, some (si q2), some (si (q1 / (26 : Int32))), none, none, none, none, none] ⟨rfl, rfl, rfl, rfl, rfl, rfl, rfl, rfl, rfl, rfl, rfl, rfl, trivial⟩ (hj6 ((1 : Int32), h12) hF)
        refine v_iload (pc := 410) (i := 11) dL_law_410 rfl ?_
        refine v_iconst (pc := 412) (v := (5 : Int32)) dL_law_412 rfl ?_
        refine v_icmp_ne (pc := 413) 572 dL_law_413 rfl (fun hc => ?_) (fun hc => ?_)
        · replace hF := (ifP hF).2 hc
          refine v_iload (pc := 572) (i := 11) dL_law_572 rfl ?_
          refine v_bipush (pc := 574) (v := (6 : Int32)) dL_law_574 rfl ?_
          refine v_icmp_ne (pc := 576) 652 dL_law_576 rfl (fun hc => ?_) (fun hc => ?_)
          · replace hF := (ifP hF).2 hc
            refine v_iload (pc := 652) (i := 11) dL_law_652 rfl ?_
            refine v_bipush (pc := 654) (v := (7 : Int32)) dL_law_654 rfl ?_
            refine v_icmp_ne (pc := 656) 807 dL_law_656 rfl (fun hc => ?_) (fun hc => ?_)
            · replace hF := (ifP hF).2 hc
              refine v_iload (pc := 807) (i := 11) dL_law_807 rfl ?_
              refine v_bipush (pc := 809) (v := (8 : Int32)) dL_law_809 rfl ?_
              refine v_icmp_ne (pc := 811) 899 dL_law_811 rfl (fun hc => ?_) (fun hc => ?_)
              · replace hF := (ifP hF).2 hc
                refine v_aload_n (pc := 899) (i := 2) dL_law_899 rfl rfl ?_
                refine v_iload (pc := 900) (i := 12) dL_law_900 rfl ?_
                refine yp_S (pc := 902) gI (as := [sr c2, si (q1 / (26 : Int32))]) (st := []) (N := mL_set) (k := 397 * m + k + 397) (n := 3018 * m + n + 3018) (k1 := 0) (n1 := 0) dL_law_902 lkL_240 caL_set csL_set rfl (fun Q1 hq => tL_set c2 (q1 / (26 : Int32)) a.2.2 Q1 hq) ⟨by decide, by decide⟩ (Nat.le_of_ble_eq_true rfl) hF (fun x13 hF => ?_)
                show gV G (mLaw nm hh) 60 Q 905 [some (sr (some (gxb G))), some (sr c1), some (sr c2), some (sr c3), some (sr c4), some (sr c5), some (sr c6), some (sr c7), none, some (si a.2.1), none, some (si q2), some (si (q1 / (26 : Int32))), some (si q4), some (si x5), none, none, none] [si x13] (397 * m + k + 397) (3018 * m + n + 3018) a.2.2
                refine v_istore (pc := 905) (i := 15) [some (sr (some (gxb G))), some (sr c1), some (sr c2), some (sr c3), some (sr c4), some (sr c5), some (sr c6), some (sr c7), none, some (si a.2.1), none, some (si q2), some (si (q1 / (26 : Int32))), some (si q4), some (si x5), some (si x13), none, none] dL_law_905 (show 15 < 18 by decide) rfl rfl ?_
                refine v_aload_n (pc := 907) (i := 2) dL_law_907 rfl rfl ?_
                refine v_aload_n (pc := 908) (i := 3) dL_law_908 rfl rfl ?_
                refine v_aload (pc := 909) (i := 5) dL_law_909 rfl ?_
                refine v_aload (pc := 911) (i := 6) dL_law_911 rfl ?_
                refine v_aload_n (pc := 913) (i := 2) dL_law_913 rfl rfl ?_
                refine v_aload_n (pc := 914) (i := 3) dL_law_914 rfl rfl ?_
                refine v_aload (pc := 915) (i := 4) dL_law_915 rfl ?_
                refine v_aload (pc := 917) (i := 5) dL_law_917 rfl ?_
                refine v_aload (pc := 919) (i := 6) dL_law_919 rfl ?_
                refine v_aload (pc := 921) (i := 7) dL_law_921 rfl ?_
                refine yh_S (pc := 923) gI (as := [sr c2, sr c3, sr c4, sr c5, sr c6, sr c7]) (st := [sr c6, sr c5, sr c3, sr c2]) (N := mL_line) (k := 397 * m + k + 396) (n := 3018 * m + n + 3006) (k1 := 1) (n1 := 12) dL_law_923 lkL_198 caL_line csL_line rfl (fun Q1 hq => tL_line c2 c3 c4 c5 c6 c7 a.2.2 Q1 hq) ⟨by decide, by decide⟩ (Nat.le_of_ble_eq_true rfl) hF (fun x14 h15 hF => ?_)
                show gV G (mLaw nm hh) 60 Q 926 [some (sr (some (gxb G))), some (sr c1), some (sr c2), some (sr c3), some (sr c4), some (sr c5), some (sr c6), some (sr c7), none, some (si a.2.1), none, some (si q2), some (si (q1 / (26 : Int32))), some (si q4), some (si x5), some (si x13), none, none] [si x14, sr c6, sr c5, sr c3, sr c2] (397 * m + k + 396) (3018 * m + n + 3006) h15
                refine v_iload (pc := 926) (i := 15) dL_law_926 rfl ?_
                refine yh_S (pc := 928) gU (as := [sr c2, sr c3, sr c5, sr c6, si x14, si x13]) (st := []) (N := mL_presses) (k := 397 * m + k + 396) (n := 3018 * m + n + 3006) (k1 := 0) (n1 := 0) dL_law_928 lkL_242 caL_presses csL_presses rfl (fun Q1 hq => tL_presses c2 c3 c5 c6 x14 x13 h15 Q1 hq) ⟨by decide, by decide⟩ (Nat.le_of_ble_eq_true rfl) hF (fun _ h16 hF => ?_)
                show gV G (mLaw nm hh) 60 Q 931 [some (sr (some (gxb G))), some (sr c1), some (sr c2), some (sr c3), some (sr c4), some (sr c5), some (sr c6), some (sr c7), none, some (si a.2.1), none, some (si q2), some (si (q1 / (26 : Int32))), some (si q4), some (si x5), some (si x13), none, none] [] (397 * m + k + 396) (3018 * m + n + 3006) h16
                refine v_aload_n (pc := 931) (i := 1) dL_law_931 rfl rfl ?_
                refine v_iload (pc := 932) (i := 15) dL_law_932 rfl ?_
                refine yx_V (pc := 934) gI (as := [si x13]) (st := []) (ci := 9) (N := mX10_chord) (k := 397 * m + k + 395) (n := 3018 * m + n + 3000) (k1 := 1) (n1 := 6) dL_law_934 lkL_245 caX10_chord cvX10_chord rfl (by decide) rfl (fun b Q1 hq => tX10_chord b x13 h16 Q1 hq) ⟨by decide, by decide⟩ (Nat.le_of_ble_eq_true rfl) hF (fun x17 h18 hF => ?_)
                show gV G (mLaw nm hh) 60 Q 937 [some (sr (some (gxb G))), some (sr c1), some (sr c2), some (sr c3), some (sr c4), some (sr c5), some (sr c6), some (sr c7), none, some (si a.2.1), none, some (si q2), some (si (q1 / (26 : Int32))), some (si q4), some (si x5), some (si x13), none, none] [si x17] (397 * m + k + 395) (3018 * m + n + 3000) h18
                refine v_aload_n (pc := 937) (i := 2) dL_law_937 rfl rfl ?_
                refine v_iconst (pc := 938) (v := (1 : Int32)) dL_law_938 rfl ?_
                refine s_iald (f := some) (pc := 939) dL_law_939 (okB_bs hF) (fun x19 hF => ?_)
                replace hF := okB_some hF
                refine v_icmp_ne (pc := 940) 947 dL_law_940 rfl (fun hc => ?_) (fun hc => ?_)
                · replace hF := (ifP hF).2 hc
                  refine v_iconst (pc := 947) (v := (0 : Int32)) dL_law_947 rfl ?_
                  refine v_istore (pc := 948) (i := 8) [some (sr (some (gxb G))), some (sr c1), some (sr c2), some (sr c3), some (sr c4), some (sr c5), some (sr c6), some (sr c7), some (si (0 : Int32)), some (si a.2.1), none, some (si q2), some (si (q1 / (26 : Int32))), some (si q4), some (si x5), some (si x13), none, none] dL_law_948 (show 8 < 18 by decide) rfl rfl ?_
                  exact v_room (k' := 397 * m + k + 383) (n' := 3018 * m + n + 2651) (by omega) (by omega) <| v_lle [some (sr (some (gxb G))), some (sr c1), some (sr c2), some (sr c3), some (sr c4), some (sr c5), some (sr c6), some (sr c7), some (si (0 : Int32)), some (si a.2.1), none, some (si q2), some (si (q1 / (26 : Int32))), none, none, none, none, none] ⟨rfl, rfl, rfl, rfl, rfl, rfl, rfl, rfl, rfl, rfl, rfl, rfl, trivial⟩ (hj6 ((0 : Int32), h18) hF)
                replace hF := (ifP hF).1 hc
                refine v_iconst (pc := 943) (v := (1 : Int32)) dL_law_943 rfl ?_
                refine v_goto (pc := 944) 948 dL_law_944 rfl ?_
                refine v_istore (pc := 948) (i := 8) [some (sr (some (gxb G))), some (sr c1), some (sr c2), some (sr c3), some (sr c4), some (sr c5), some (sr c6), some (sr c7), some (si (1 : Int32)), some (si a.2.1), none, some (si q2), some (si (q1 / (26 : Int32))), some (si q4), some (si x5), some (si x13), none, none] dL_law_948 (show 8 < 18 by decide) rfl rfl ?_
                exact v_room (k' := 397 * m + k + 383) (n' := 3018 * m + n + 2651) (by omega) (by omega) <| v_lle [some (sr (some (gxb G))), some (sr c1), some (sr c2), some (sr c3), some (sr c4), some (sr c5), some (sr c6), some (sr c7), some (si (1 : Int32)), some (si a.2.1), none, some (si q2), some (si (q1 / (26 : Int32))), none, none, none, none, none] ⟨rfl, rfl, rfl, rfl, rfl, rfl, rfl, rfl, rfl, rfl, rfl, rfl, trivial⟩ (hj6 ((1 : Int32), h18) hF)
              replace hF := (ifP hF).1 hc
              refine v_iload (pc := 814) (i := 12) dL_law_814 rfl ?_
              refine v_bipush (pc := 816) (v := (10 : Int32)) dL_law_816 rfl ?_
              refine s_idiv (f := some) (pc := 818) dL_law_818 (okB_bs hF) (fun hF => ?_)
              replace hF := okB_some hF
              refine v_iconst (pc := 819) (v := (4 : Int32)) dL_law_819 rfl ?_
              refine s_irem (f := some) (pc := 820) dL_law_820 (okB_bs hF) (fun hF => ?_)
              replace hF := okB_some hF
              refine v_iconst (pc := 821) (v := (1 : Int32)) dL_law_821 rfl ?_
              refine v_isub (pc := 822) dL_law_822 ?_
              refine v_istore (pc := 823) (i := 15) [some (sr (some (gxb G))), some (sr c1), some (sr c2), some (sr c3), some (sr c4), some (sr c5), some (sr c6), some (sr c7), none, some (si a.2.1), none, some (si q2), some (si (q1 / (26 : Int32))), some (si q4), some (si x5), some (si ((((q1 / (26 : Int32)) / (10 : Int32)) - ((q1 / (26 : Int32)) / (10 : Int32)) / (4 : Int32) * (4 : Int32)) - (1 : Int32))), none, none] dL_law_823 (show 15 < 18 by decide) rfl rfl ?_
              refine v_aload_n (pc := 825) (i := 1) dL_law_825 rfl rfl ?_
              refine v_iconst (pc := 826) (v := (5 : Int32)) dL_law_826 rfl ?_
              refine v_iload (pc := 827) (i := 13) dL_law_827 rfl ?_
              refine v_iload (pc := 829) (i := 15) dL_law_829 rfl ?_
              refine v_iconst (pc := 831) (v := (0 : Int32)) dL_law_831 rfl ?_
              refine ye_S (pc := 832) (as := [sr c1, si (5 : Int32), si q4, si ((((q1 / (26 : Int32)) / (10 : Int32)) - ((q1 / (26 : Int32)) / (10 : Int32)) / (4 : Int32) * (4 : Int32)) - (1 : Int32)), si (0 : Int32)]) (st := []) (N := mL_does) (k := 397 * m + k + 387) (n := 3018 * m + n + 2675) (k1 := 10) (n1 := 343) dL_law_832 lkL_194 caL_does rfl (fun Q1 hq => tL_does c1 (5 : Int32) q4 ((((q1 / (26 : Int32)) / (10 : Int32)) - ((q1 / (26 : Int32)) / (10 : Int32)) / (4 : Int32) * (4 : Int32)) - (1 : Int32)) (0 : Int32) a.2.2 Q1 hq) ⟨by decide, by decide⟩ (Nat.le_of_ble_eq_true rfl) hF (fun x20 h21 hF => ?_)
              show gV G (mLaw nm hh) 60 Q 835 [some (sr (some (gxb G))), some (sr c1), some (sr c2), some (sr c3), some (sr c4), some (sr c5), some (sr c6), some (sr c7), none, some (si a.2.1), none, some (si q2), some (si (q1 / (26 : Int32))), some (si q4), some (si x5), some (si ((((q1 / (26 : Int32)) / (10 : Int32)) - ((q1 / (26 : Int32)) / (10 : Int32)) / (4 : Int32) * (4 : Int32)) - (1 : Int32))), none, none] [si x20] (397 * m + k + 387) (3018 * m + n + 2675) h21
              refine v_iload (pc := 835) (i := 14) dL_law_835 rfl ?_
              refine mgW (X := fun q22 => gV G (mLaw nm hh) 60 Q 856 [some (sr (some (gxb G))), some (sr c1), some (sr c2), some (sr c3), some (sr c4), some (sr c5), some (sr c6), some (sr c7), none, some (si a.2.1), none, some (si q2), some (si (q1 / (26 : Int32))), some (si q4), some (si x5), some (si ((((q1 / (26 : Int32)) / (10 : Int32)) - ((q1 / (26 : Int32)) / (10 : Int32)) / (4 : Int32) * (4 : Int32)) - (1 : Int32))), none, none] [si q22, si x20] (397 * m + k + 383) (3018 * m + n + 2651) h21) hF (fun K22 hj22 hF => ?_) (fun q22 hF => ?_)
              · refine v_if_eq (pc := 837) 854 dL_law_837 rfl (fun hc => ?_) (fun hc => ?_)
                · replace hF := (ifP hF).1 hc
                  refine v_bipush (pc := 854) (v := (-11 : Int32)) dL_law_854 rfl ?_
                  exact v_room (k' := 397 * m + k + 383) (n' := 3018 * m + n + 2651) (by omega) (by omega) <| v_lle [some (sr (some (gxb G))), some (sr c1), some (sr c2), some (sr c3), some (sr c4), some (sr c5), some (sr c6), some (sr c7), none, some (si a.2.1), none, some (si q2), some (si (q1 / (26 : Int32))), some (si q4), some (si x5), some (si ((((q1 / (26 : Int32)) / (10 : Int32)) - ((q1 / (26 : Int32)) / (10 : Int32)) / (4 : Int32) * (4 : Int32)) - (1 : Int32))), none, none] ⟨rfl, rfl, rfl, rfl, rfl, rfl, rfl, rfl, rfl, rfl, rfl, rfl, rfl, rfl, trivial⟩ (hj22 (-11 : Int32) hF)
                replace hF := (ifP hF).2 hc
                refine v_aload_n (pc := 840) (i := 3) dL_law_840 rfl rfl ?_
                refine v_bipush (pc := 841) (v := (6 : Int32)) dL_law_841 rfl ?_
                refine v_iload (pc := 843) (i := 13) dL_law_843 rfl ?_
                refine v_imul (pc := 845) dL_law_845 ?_
                refine v_iconst (pc := 846) (v := (4 : Int32)) dL_law_846 rfl ?_
                refine v_iadd (pc := 847) dL_law_847 ?_
                refine s_iald (f := some) (pc := 848) dL_law_848 (okB_bs hF) (fun x23 hF => ?_)
                replace hF := okB_some hF
                refine v_iconst (pc := 849) (v := (1 : Int32)) dL_law_849 rfl ?_
                refine v_isub (pc := 850) dL_law_850 ?_
                refine v_goto (pc := 851) 856 dL_law_851 rfl ?_
                exact v_room (k' := 397 * m + k + 383) (n' := 3018 * m + n + 2651) (by omega) (by omega) <| v_lle [some (sr (some (gxb G))), some (sr c1), some (sr c2), some (sr c3), some (sr c4), some (sr c5), some (sr c6), some (sr c7), none, some (si a.2.1), none, some (si q2), some (si (q1 / (26 : Int32))), some (si q4), some (si x5), some (si ((((q1 / (26 : Int32)) / (10 : Int32)) - ((q1 / (26 : Int32)) / (10 : Int32)) / (4 : Int32) * (4 : Int32)) - (1 : Int32))), none, none] ⟨rfl, rfl, rfl, rfl, rfl, rfl, rfl, rfl, rfl, rfl, rfl, rfl, rfl, rfl, trivial⟩ (hj22 (x23 - (1 : Int32)) hF)
              refine mgW (X := fun q24 => gV G (mLaw nm hh) 60 Q 864 [some (sr (some (gxb G))), some (sr c1), some (sr c2), some (sr c3), some (sr c4), some (sr c5), some (sr c6), some (sr c7), none, some (si a.2.1), none, some (si q2), some (si (q1 / (26 : Int32))), some (si q4), some (si x5), some (si ((((q1 / (26 : Int32)) / (10 : Int32)) - ((q1 / (26 : Int32)) / (10 : Int32)) / (4 : Int32) * (4 : Int32)) - (1 : Int32))), none, none] [si q24] (397 * m + k + 383) (3018 * m + n + 2651) h21) hF (fun K24 hj24 hF => ?_) (fun q24 hF => ?_)
              · refine v_icmp_ne (pc := 856) 863 dL_law_856 rfl (fun hc => ?_) (fun hc => ?_)
                · replace hF := (ifP hF).2 hc
                  refine v_iconst (pc := 863) (v := (0 : Int32)) dL_law_863 rfl ?_
                  exact v_lle [some (sr (some (gxb G))), some (sr c1), some (sr c2), some (sr c3), some (sr c4), some (sr c5), some (sr c6), some (sr c7), none, some (si a.2.1), none, some (si q2), some (si (q1 / (26 : Int32))), some (si q4), some (si x5), some (si ((((q1 / (26 : Int32)) / (10 : Int32)) - ((q1 / (26 : Int32)) / (10 : Int32)) / (4 : Int32) * (4 : Int32)) - (1 : Int32))), none, none] ⟨rfl, rfl, rfl, rfl, rfl, rfl, rfl, rfl, rfl, rfl, rfl, rfl, rfl, rfl, trivial⟩ (hj24 (0 : Int32) hF)
                replace hF := (ifP hF).1 hc
                refine v_iconst (pc := 859) (v := (1 : Int32)) dL_law_859 rfl ?_
                refine v_goto (pc := 860) 864 dL_law_860 rfl ?_
                exact v_lle [some (sr (some (gxb G))), some (sr c1), some (sr c2), some (sr c3), some (sr c4), some (sr c5), some (sr c6), some (sr c7), none, some (si a.2.1), none, some (si q2), some (si (q1 / (26 : Int32))), some (si q4), some (si x5), some (si ((((q1 / (26 : Int32)) / (10 : Int32)) - ((q1 / (26 : Int32)) / (10 : Int32)) / (4 : Int32) * (4 : Int32)) - (1 : Int32))), none, none] ⟨rfl, rfl, rfl, rfl, rfl, rfl, rfl, rfl, rfl, rfl, rfl, rfl, rfl, rfl, trivial⟩ (hj24 (1 : Int32) hF)
              refine v_istore (pc := 864) (i := 8) [some (sr (some (gxb G))), some (sr c1), some (sr c2), some (sr c3), some (sr c4), some (sr c5), some (sr c6), some (sr c7), some (si q24), some (si a.2.1), none, some (si q2), some (si (q1 / (26 : Int32))), some (si q4), some (si x5), some (si ((((q1 / (26 : Int32)) / (10 : Int32)) - ((q1 / (26 : Int32)) / (10 : Int32)) / (4 : Int32) * (4 : Int32)) - (1 : Int32))), none, none] dL_law_864 (show 8 < 18 by decide) rfl rfl ?_
              refine v_aload_n (pc := 866) (i := 3) dL_law_866 rfl rfl ?_
              refine v_bipush (pc := 867) (v := (6 : Int32)) dL_law_867 rfl ?_
              refine v_iload (pc := 869) (i := 13) dL_law_869 rfl ?_
              refine v_imul (pc := 871) dL_law_871 ?_
              refine v_iconst (pc := 872) (v := (4 : Int32)) dL_law_872 rfl ?_
              refine v_iadd (pc := 873) dL_law_873 ?_
              refine v_iload (pc := 874) (i := 14) dL_law_874 rfl ?_
              refine v_if_eq (pc := 876) 886 dL_law_876 rfl (fun hc => ?_) (fun hc => ?_)
              · replace hF := (ifP hF).1 hc
                refine v_aload_n (pc := 886) (i := 3) dL_law_886 rfl rfl ?_
                refine v_bipush (pc := 887) (v := (6 : Int32)) dL_law_887 rfl ?_
                refine v_iload (pc := 889) (i := 13) dL_law_889 rfl ?_
                refine v_imul (pc := 891) dL_law_891 ?_
                refine v_iconst (pc := 892) (v := (4 : Int32)) dL_law_892 rfl ?_
                refine v_iadd (pc := 893) dL_law_893 ?_
                refine s_iald (f := some) (pc := 894) dL_law_894 (okB_bs hF) (fun x25 hF => ?_)
                replace hF := okB_some hF
                refine s_iast (f := some) (pc := 895) dL_law_895 (okB_bs hF) (fun h26 hF => ?_)
                replace hF := okB_some hF
                refine v_goto (pc := 896) 950 dL_law_896 rfl ?_
                exact v_lle [some (sr (some (gxb G))), some (sr c1), some (sr c2), some (sr c3), some (sr c4), some (sr c5), some (sr c6), some (sr c7), some (si q24), some (si a.2.1), none, some (si q2), some (si (q1 / (26 : Int32))), none, none, none, none, none] ⟨rfl, rfl, rfl, rfl, rfl, rfl, rfl, rfl, rfl, rfl, rfl, rfl, trivial⟩ (hj6 (q24, h26) hF)
              replace hF := (ifP hF).2 hc
              refine v_iload (pc := 879) (i := 15) dL_law_879 rfl ?_
              refine v_iconst (pc := 881) (v := (1 : Int32)) dL_law_881 rfl ?_
              refine v_iadd (pc := 882) dL_law_882 ?_
              refine v_goto (pc := 883) 895 dL_law_883 rfl ?_
              refine s_iast (f := some) (pc := 895) dL_law_895 (okB_bs hF) (fun h27 hF => ?_)
              replace hF := okB_some hF
              refine v_goto (pc := 896) 950 dL_law_896 rfl ?_
              exact v_lle [some (sr (some (gxb G))), some (sr c1), some (sr c2), some (sr c3), some (sr c4), some (sr c5), some (sr c6), some (sr c7), some (si q24), some (si a.2.1), none, some (si q2), some (si (q1 / (26 : Int32))), none, none, none, none, none] ⟨rfl, rfl, rfl, rfl, rfl, rfl, rfl, rfl, rfl, rfl, rfl, rfl, trivial⟩ (hj6 (q24, h27) hF)
            replace hF := (ifP hF).1 hc
            refine v_iload (pc := 659) (i := 12) dL_law_659 rfl ?_
            refine v_bipush (pc := 661) (v := (10 : Int32)) dL_law_661 rfl ?_
            refine s_idiv (f := some) (pc := 663) dL_law_663 (okB_bs hF) (fun hF => ?_)
            replace hF := okB_some hF
            refine v_iconst (pc := 664) (v := (2 : Int32)) dL_law_664 rfl ?_
            refine s_irem (f := some) (pc := 665) dL_law_665 (okB_bs hF) (fun hF => ?_)
            replace hF := okB_some hF
            refine mgW (X := fun q28 => gV G (mLaw nm hh) 60 Q 674 [some (sr (some (gxb G))), some (sr c1), some (sr c2), some (sr c3), some (sr c4), some (sr c5), some (sr c6), some (sr c7), none, some (si a.2.1), none, some (si q2), some (si (q1 / (26 : Int32))), some (si q4), some (si x5), none, none, none] [si q28] (397 * m + k + 393) (3018 * m + n + 2994) a.2.2) hF (fun K28 hj28 hF => ?_) (fun q28 hF => ?_)
            · refine v_if_ne (pc := 666) 673 dL_law_666 rfl (fun hc => ?_) (fun hc => ?_)
              · replace hF := (ifP hF).2 hc
                refine v_iconst (pc := 673) (v := (0 : Int32)) dL_law_673 rfl ?_
                exact v_room (k' := 397 * m + k + 393) (n' := 3018 * m + n + 2994) (by omega) (by omega) <| v_lle [some (sr (some (gxb G))), some (sr c1), some (sr c2), some (sr c3), some (sr c4), some (sr c5), some (sr c6), some (sr c7), none, some (si a.2.1), none, some (si q2), some (si (q1 / (26 : Int32))), some (si q4), some (si x5), none, none, none] ⟨rfl, rfl, rfl, rfl, rfl, rfl, rfl, rfl, rfl, rfl, rfl, rfl, rfl, trivial⟩ (hj28 (0 : Int32) hF)
              replace hF := (ifP hF).1 hc
              refine v_iconst (pc := 669) (v := (1 : Int32)) dL_law_669 rfl ?_
              refine v_goto (pc := 670) 674 dL_law_670 rfl ?_
              exact v_room (k' := 397 * m + k + 393) (n' := 3018 * m + n + 2994) (by omega) (by omega) <| v_lle [some (sr (some (gxb G))), some (sr c1), some (sr c2), some (sr c3), some (sr c4), some (sr c5), some (sr c6), some (sr c7), none, some (si a.2.1), none, some (si q2), some (si (q1 / (26 : Int32))), some (si q4), some (si x5), none, none, none] ⟨rfl, rfl, rfl, rfl, rfl, rfl, rfl, rfl, rfl, rfl, rfl, rfl, rfl, trivial⟩ (hj28 (1 : Int32) hF)
            refine v_istore (pc := 674) (i := 15) [some (sr (some (gxb G))), some (sr c1), some (sr c2), some (sr c3), some (sr c4), some (sr c5), some (sr c6), some (sr c7), none, some (si a.2.1), none, some (si q2), some (si (q1 / (26 : Int32))), some (si q4), some (si x5), some (si q28), none, none] dL_law_674 (show 15 < 18 by decide) rfl rfl ?_
            refine v_iload (pc := 676) (i := 14) dL_law_676 rfl ?_
            refine mgW (X := fun q29 => gV G (mLaw nm hh) 60 Q 715 [some (sr (some (gxb G))), some (sr c1), some (sr c2), some (sr c3), some (sr c4), some (sr c5), some (sr c6), some (sr c7), none, some (si a.2.1), none, some (si q2), some (si (q1 / (26 : Int32))), some (si q4), none, some (si q28), none, none] [si q29] (397 * m + k + 393) (3018 * m + n + 2994) a.2.2) hF (fun K29 hj29 hF => ?_) (fun q29 hF => ?_)
            · refine v_if_ne (pc := 678) 686 dL_law_678 rfl (fun hc => ?_) (fun hc => ?_)
              · replace hF := (ifP hF).2 hc
                refine v_aload_n (pc := 686) (i := 3) dL_law_686 rfl rfl ?_
                refine v_bipush (pc := 687) (v := (6 : Int32)) dL_law_687 rfl ?_
                refine v_iload (pc := 689) (i := 13) dL_law_689 rfl ?_
                refine v_imul (pc := 691) dL_law_691 ?_
                refine s_iald (f := some) (pc := 692) dL_law_692 (okB_bs hF) (fun x30 hF => ?_)
                replace hF := okB_some hF
                refine v_iconst (pc := 693) (v := (3 : Int32)) dL_law_693 rfl ?_
                refine v_icmp_eq (pc := 694) 702 dL_law_694 rfl (fun hc => ?_) (fun hc => ?_)
                · replace hF := (ifP hF).1 hc
                  refine v_aload_n (pc := 702) (i := 3) dL_law_702 rfl rfl ?_
                  refine v_bipush (pc := 703) (v := (6 : Int32)) dL_law_703 rfl ?_
                  refine v_iload (pc := 705) (i := 13) dL_law_705 rfl ?_
                  refine v_imul (pc := 707) dL_law_707 ?_
                  refine v_iconst (pc := 708) (v := (3 : Int32)) dL_law_708 rfl ?_
                  refine v_iadd (pc := 709) dL_law_709 ?_
                  refine s_iald (f := some) (pc := 710) dL_law_710 (okB_bs hF) (fun x31 hF => ?_)
                  replace hF := okB_some hF
                  refine v_iconst (pc := 711) (v := (4 : Int32)) dL_law_711 rfl ?_
                  refine v_iand (pc := 712) dL_law_712 ?_
                  refine v_iconst (pc := 713) (v := (4 : Int32)) dL_law_713 rfl ?_
                  refine s_idiv (f := some) (pc := 714) dL_law_714 (okB_bs hF) (fun hF => ?_)
                  replace hF := okB_some hF
                  exact v_lle [some (sr (some (gxb G))), some (sr c1), some (sr c2), some (sr c3), some (sr c4), some (sr c5), some (sr c6), some (sr c7), none, some (si a.2.1), none, some (si q2), some (si (q1 / (26 : Int32))), some (si q4), none, some (si q28), none, none] ⟨rfl, rfl, rfl, rfl, rfl, rfl, rfl, rfl, rfl, rfl, rfl, rfl, rfl, trivial⟩ (hj29 ((x31 &&& (4 : Int32)) / (4 : Int32)) hF)
                replace hF := (ifP hF).2 hc
                refine v_bipush (pc := 697) (v := (-13 : Int32)) dL_law_697 rfl ?_
                refine v_goto (pc := 699) 715 dL_law_699 rfl ?_
                exact v_lle [some (sr (some (gxb G))), some (sr c1), some (sr c2), some (sr c3), some (sr c4), some (sr c5), some (sr c6), some (sr c7), none, some (si a.2.1), none, some (si q2), some (si (q1 / (26 : Int32))), some (si q4), none, some (si q28), none, none] ⟨rfl, rfl, rfl, rfl, rfl, rfl, rfl, rfl, rfl, rfl, rfl, rfl, rfl, trivial⟩ (hj29 (-13 : Int32) hF)
              replace hF := (ifP hF).1 hc
              refine v_bipush (pc := 681) (v := (-11 : Int32)) dL_law_681 rfl ?_
              refine v_goto (pc := 683) 715 dL_law_683 rfl ?_
              exact v_lle [some (sr (some (gxb G))), some (sr c1), some (sr c2), some (sr c3), some (sr c4), some (sr c5), some (sr c6), some (sr c7), none, some (si a.2.1), none, some (si q2), some (si (q1 / (26 : Int32))), some (si q4), none, some (si q28), none, none] ⟨rfl, rfl, rfl, rfl, rfl, rfl, rfl, rfl, rfl, rfl, rfl, rfl, rfl, trivial⟩ (hj29 (-11 : Int32) hF)
            refine v_istore (pc := 715) (i := 16) [some (sr (some (gxb G))), some (sr c1), some (sr c2), some (sr c3), some (sr c4), some (sr c5), some (sr c6), some (sr c7), none, some (si a.2.1), none, some (si q2), some (si (q1 / (26 : Int32))), some (si q4), none, some (si q28), some (si q29), none] dL_law_715 (show 16 < 18 by decide) rfl rfl ?_
            refine v_aload_n (pc := 717) (i := 3) dL_law_717 rfl rfl ?_
            refine v_bipush (pc := 718) (v := (6 : Int32)) dL_law_718 rfl ?_
            refine v_iload (pc := 720) (i := 13) dL_law_720 rfl ?_
            refine v_imul (pc := 722) dL_law_722 ?_
            refine v_iconst (pc := 723) (v := (3 : Int32)) dL_law_723 rfl ?_
            refine v_iadd (pc := 724) dL_law_724 ?_
            refine v_iload (pc := 725) (i := 16) dL_law_725 rfl ?_
            refine mgW (X := fun q32 => gV G (mLaw nm hh) 60 Q 773 [some (sr (some (gxb G))), some (sr c1), some (sr c2), some (sr c3), some (sr c4), some (sr c5), some (sr c6), some (sr c7), none, some (si a.2.1), none, some (si q2), some (si (q1 / (26 : Int32))), some (si q4), none, some (si q28), some (si q29), none] [si q32, si (((6 : Int32) * q4) + (3 : Int32)), sr c3] (397 * m + k + 393) (3018 * m + n + 2994) a.2.2) hF (fun K32 hj32 hF => ?_) (fun q32 hF => ?_)
            · refine v_if_ge (pc := 727) 742 dL_law_727 rfl (fun hc => ?_) (fun hc => ?_)
              · replace hF := (ifP hF).1 hc
                refine v_iload (pc := 742) (i := 15) dL_law_742 rfl ?_
                refine v_if_eq (pc := 744) 761 dL_law_744 rfl (fun hc => ?_) (fun hc => ?_)
                · replace hF := (ifP hF).1 hc
                  refine v_aload_n (pc := 761) (i := 3) dL_law_761 rfl rfl ?_
                  refine v_bipush (pc := 762) (v := (6 : Int32)) dL_law_762 rfl ?_
                  refine v_iload (pc := 764) (i := 13) dL_law_764 rfl ?_
                  refine v_imul (pc := 766) dL_law_766 ?_
                  refine v_iconst (pc := 767) (v := (3 : Int32)) dL_law_767 rfl ?_
                  refine v_iadd (pc := 768) dL_law_768 ?_
                  refine s_iald (f := some) (pc := 769) dL_law_769 (okB_bs hF) (fun x33 hF => ?_)
                  replace hF := okB_some hF
                  refine v_bipush (pc := 770) (v := (-5 : Int32)) dL_law_770 rfl ?_
                  refine v_iand (pc := 772) dL_law_772 ?_
                  exact v_lle [some (sr (some (gxb G))), some (sr c1), some (sr c2), some (sr c3), some (sr c4), some (sr c5), some (sr c6), some (sr c7), none, some (si a.2.1), none, some (si q2), some (si (q1 / (26 : Int32))), some (si q4), none, some (si q28), some (si q29), none] ⟨rfl, rfl, rfl, rfl, rfl, rfl, rfl, rfl, rfl, rfl, rfl, rfl, rfl, rfl, trivial⟩ (hj32 (x33 &&& (-5 : Int32)) hF)
                replace hF := (ifP hF).2 hc
                refine v_aload_n (pc := 747) (i := 3) dL_law_747 rfl rfl ?_
                refine v_bipush (pc := 748) (v := (6 : Int32)) dL_law_748 rfl ?_
                refine v_iload (pc := 750) (i := 13) dL_law_750 rfl ?_
                refine v_imul (pc := 752) dL_law_752 ?_
                refine v_iconst (pc := 753) (v := (3 : Int32)) dL_law_753 rfl ?_
                refine v_iadd (pc := 754) dL_law_754 ?_
                refine s_iald (f := some) (pc := 755) dL_law_755 (okB_bs hF) (fun x34 hF => ?_)
                replace hF := okB_some hF
                refine v_iconst (pc := 756) (v := (4 : Int32)) dL_law_756 rfl ?_
                refine v_ior (pc := 757) dL_law_757 ?_
                refine v_goto (pc := 758) 773 dL_law_758 rfl ?_
                exact v_lle [some (sr (some (gxb G))), some (sr c1), some (sr c2), some (sr c3), some (sr c4), some (sr c5), some (sr c6), some (sr c7), none, some (si a.2.1), none, some (si q2), some (si (q1 / (26 : Int32))), some (si q4), none, some (si q28), some (si q29), none] ⟨rfl, rfl, rfl, rfl, rfl, rfl, rfl, rfl, rfl, rfl, rfl, rfl, rfl, rfl, trivial⟩ (hj32 (x34 ||| (4 : Int32)) hF)
              replace hF := (ifP hF).2 hc
              refine v_aload_n (pc := 730) (i := 3) dL_law_730 rfl rfl ?_
              refine v_bipush (pc := 731) (v := (6 : Int32)) dL_law_731 rfl ?_
              refine v_iload (pc := 733) (i := 13) dL_law_733 rfl ?_
              refine v_imul (pc := 735) dL_law_735 ?_
              refine v_iconst (pc := 736) (v := (3 : Int32)) dL_law_736 rfl ?_
              refine v_iadd (pc := 737) dL_law_737 ?_
              refine s_iald (f := some) (pc := 738) dL_law_738 (okB_bs hF) (fun x35 hF => ?_)
              replace hF := okB_some hF
              refine v_goto (pc := 739) 773 dL_law_739 rfl ?_
              exact v_lle [some (sr (some (gxb G))), some (sr c1), some (sr c2), some (sr c3), some (sr c4), some (sr c5), some (sr c6), some (sr c7), none, some (si a.2.1), none, some (si q2), some (si (q1 / (26 : Int32))), some (si q4), none, some (si q28), some (si q29), none] ⟨rfl, rfl, rfl, rfl, rfl, rfl, rfl, rfl, rfl, rfl, rfl, rfl, rfl, rfl, trivial⟩ (hj32 x35 hF)
            refine s_iast (f := some) (pc := 773) dL_law_773 (okB_bs hF) (fun h36 hF => ?_)
            replace hF := okB_some hF
            refine v_aload_n (pc := 774) (i := 1) dL_law_774 rfl rfl ?_
            refine v_iconst (pc := 775) (v := (4 : Int32)) dL_law_775 rfl ?_
            refine v_iload (pc := 776) (i := 13) dL_law_776 rfl ?_
            refine v_iload (pc := 778) (i := 15) dL_law_778 rfl ?_
            refine mgW (X := fun q37 => gV G (mLaw nm hh) 60 Q 788 [some (sr (some (gxb G))), some (sr c1), some (sr c2), some (sr c3), some (sr c4), some (sr c5), some (sr c6), some (sr c7), none, some (si a.2.1), none, some (si q2), some (si (q1 / (26 : Int32))), none, none, none, some (si q29), none] [si q37, si q4, si (4 : Int32), sr c1] (397 * m + k + 393) (3018 * m + n + 2994) h36) hF (fun K37 hj37 hF => ?_) (fun q37 hF => ?_)
            · refine v_if_eq (pc := 780) 787 dL_law_780 rfl (fun hc => ?_) (fun hc => ?_)
              · replace hF := (ifP hF).1 hc
                refine v_iconst (pc := 787) (v := (0 : Int32)) dL_law_787 rfl ?_
                exact v_lle [some (sr (some (gxb G))), some (sr c1), some (sr c2), some (sr c3), some (sr c4), some (sr c5), some (sr c6), some (sr c7), none, some (si a.2.1), none, some (si q2), some (si (q1 / (26 : Int32))), none, none, none, some (si q29), none] ⟨rfl, rfl, rfl, rfl, rfl, rfl, rfl, rfl, rfl, rfl, rfl, rfl, trivial⟩ (hj37 (0 : Int32) hF)
              replace hF := (ifP hF).2 hc
              refine v_iconst (pc := 783) (v := (1 : Int32)) dL_law_783 rfl ?_
              refine v_goto (pc := 784) 788 dL_law_784 rfl ?_
              exact v_lle [some (sr (some (gxb G))), some (sr c1), some (sr c2), some (sr c3), some (sr c4), some (sr c5), some (sr c6), some (sr c7), none, some (si a.2.1), none, some (si q2), some (si (q1 / (26 : Int32))), none, none, none, some (si q29), none] ⟨rfl, rfl, rfl, rfl, rfl, rfl, rfl, rfl, rfl, rfl, rfl, rfl, trivial⟩ (hj37 (1 : Int32) hF)
            refine v_iconst (pc := 788) (v := (0 : Int32)) dL_law_788 rfl ?_
            refine ye_S (pc := 789) (as := [sr c1, si (4 : Int32), si q4, si q37, si (0 : Int32)]) (st := []) (N := mL_does) (k := 397 * m + k + 383) (n := 3018 * m + n + 2651) (k1 := 10) (n1 := 343) dL_law_789 lkL_194 caL_does rfl (fun Q1 hq => tL_does c1 (4 : Int32) q4 q37 (0 : Int32) h36 Q1 hq) ⟨by decide, by decide⟩ (Nat.le_of_ble_eq_true rfl) hF (fun x38 h39 hF => ?_)
            show gV G (mLaw nm hh) 60 Q 792 [some (sr (some (gxb G))), some (sr c1), some (sr c2), some (sr c3), some (sr c4), some (sr c5), some (sr c6), some (sr c7), none, some (si a.2.1), none, some (si q2), some (si (q1 / (26 : Int32))), none, none, none, some (si q29), none] [si x38] (397 * m + k + 383) (3018 * m + n + 2651) h39
            refine v_iload (pc := 792) (i := 16) dL_law_792 rfl ?_
            refine v_icmp_ne (pc := 794) 801 dL_law_794 rfl (fun hc => ?_) (fun hc => ?_)
            · replace hF := (ifP hF).2 hc
              refine v_iconst (pc := 801) (v := (0 : Int32)) dL_law_801 rfl ?_
              refine v_istore (pc := 802) (i := 8) [some (sr (some (gxb G))), some (sr c1), some (sr c2), some (sr c3), some (sr c4), some (sr c5), some (sr c6), some (sr c7), some (si (0 : Int32)), some (si a.2.1), none, some (si q2), some (si (q1 / (26 : Int32))), none, none, none, some (si q29), none] dL_law_802 (show 8 < 18 by decide) rfl rfl ?_
              refine v_goto (pc := 804) 950 dL_law_804 rfl ?_
              exact v_lle [some (sr (some (gxb G))), some (sr c1), some (sr c2), some (sr c3), some (sr c4), some (sr c5), some (sr c6), some (sr c7), some (si (0 : Int32)), some (si a.2.1), none, some (si q2), some (si (q1 / (26 : Int32))), none, none, none, none, none] ⟨rfl, rfl, rfl, rfl, rfl, rfl, rfl, rfl, rfl, rfl, rfl, rfl, trivial⟩ (hj6 ((0 : Int32), h39) hF)
            replace hF := (ifP hF).1 hc
            refine v_iconst (pc := 797) (v := (1 : Int32)) dL_law_797 rfl ?_
            refine v_goto (pc := 798) 802 dL_law_798 rfl ?_
            refine v_istore (pc := 802) (i := 8) [some (sr (some (gxb G))), some (sr c1), some (sr c2), some (sr c3), some (sr c4), some (sr c5), some (sr c6), some (sr c7), some (si (1 : Int32)), some (si a.2.1), none, some (si q2), some (si (q1 / (26 : Int32))), none, none, none, some (si q29), none] dL_law_802 (show 8 < 18 by decide) rfl rfl ?_
            refine v_goto (pc := 804) 950 dL_law_804 rfl ?_
            exact v_lle [some (sr (some (gxb G))), some (sr c1), some (sr c2), some (sr c3), some (sr c4), some (sr c5), some (sr c6), some (sr c7), some (si (1 : Int32)), some (si a.2.1), none, some (si q2), some (si (q1 / (26 : Int32))), none, none, none, none, none] ⟨rfl, rfl, rfl, rfl, rfl, rfl, rfl, rfl, rfl, rfl, rfl, rfl, trivial⟩ (hj6 ((1 : Int32), h39) hF)
          replace hF := (ifP hF).1 hc
          refine v_iload (pc := 579) (i := 14) dL_law_579 rfl ?_
          refine mgW (X := fun q40 => gV G (mLaw nm hh) 60 Q 600 [some (sr (some (gxb G))), some (sr c1), some (sr c2), some (sr c3), some (sr c4), some (sr c5), some (sr c6), some (sr c7), none, some (si a.2.1), none, some (si q2), some (si (q1 / (26 : Int32))), some (si q4), none, none, none, none] [si q40] (397 * m + k + 397) (3018 * m + n + 3018) a.2.2) hF (fun K40 hj40 hF => ?_) (fun q40 hF => ?_)
          · refine v_if_ne (pc := 581) 589 dL_law_581 rfl (fun hc => ?_) (fun hc => ?_)
            · replace hF := (ifP hF).2 hc
              refine v_iload (pc := 589) (i := 13) dL_law_589 rfl ?_
              refine v_if_ne (pc := 591) 599 dL_law_591 rfl (fun hc => ?_) (fun hc => ?_)
              · replace hF := (ifP hF).2 hc
                refine v_iconst (pc := 599) (v := (0 : Int32)) dL_law_599 rfl ?_
                exact v_lle [some (sr (some (gxb G))), some (sr c1), some (sr c2), some (sr c3), some (sr c4), some (sr c5), some (sr c6), some (sr c7), none, some (si a.2.1), none, some (si q2), some (si (q1 / (26 : Int32))), some (si q4), none, none, none, none] ⟨rfl, rfl, rfl, rfl, rfl, rfl, rfl, rfl, rfl, rfl, rfl, rfl, trivial⟩ (hj40 (0 : Int32) hF)
              replace hF := (ifP hF).1 hc
              refine v_bipush (pc := 594) (v := (-13 : Int32)) dL_law_594 rfl ?_
              refine v_goto (pc := 596) 600 dL_law_596 rfl ?_
              exact v_lle [some (sr (some (gxb G))), some (sr c1), some (sr c2), some (sr c3), some (sr c4), some (sr c5), some (sr c6), some (sr c7), none, some (si a.2.1), none, some (si q2), some (si (q1 / (26 : Int32))), some (si q4), none, none, none, none] ⟨rfl, rfl, rfl, rfl, rfl, rfl, rfl, rfl, rfl, rfl, rfl, rfl, trivial⟩ (hj40 (-13 : Int32) hF)
            replace hF := (ifP hF).1 hc
            refine v_bipush (pc := 584) (v := (-11 : Int32)) dL_law_584 rfl ?_
            refine v_goto (pc := 586) 600 dL_law_586 rfl ?_
            exact v_lle [some (sr (some (gxb G))), some (sr c1), some (sr c2), some (sr c3), some (sr c4), some (sr c5), some (sr c6), some (sr c7), none, some (si a.2.1), none, some (si q2), some (si (q1 / (26 : Int32))), some (si q4), none, none, none, none] ⟨rfl, rfl, rfl, rfl, rfl, rfl, rfl, rfl, rfl, rfl, rfl, rfl, trivial⟩ (hj40 (-11 : Int32) hF)
          refine v_istore (pc := 600) (i := 15) [some (sr (some (gxb G))), some (sr c1), some (sr c2), some (sr c3), some (sr c4), some (sr c5), some (sr c6), some (sr c7), none, some (si a.2.1), none, some (si q2), some (si (q1 / (26 : Int32))), some (si q4), none, some (si q40), none, none] dL_law_600 (show 15 < 18 by decide) rfl rfl ?_
          refine v_iload (pc := 602) (i := 15) dL_law_602 rfl ?_
          refine mgW (X := fun q41 => gV G (mLaw nm hh) 60 Q 628 [some (sr (some (gxb G))), some (sr c1), some (sr c2), some (sr c3), some (sr c4), some (sr c5), some (sr c6), some (sr c7), none, some (si a.2.1), none, some (si q2), some (si (q1 / (26 : Int32))), some (si q4), none, some (si q41.1), none, none] [] (397 * m + k + 393) (3018 * m + n + 2994) q41.2) hF (fun K41 hj41 hF => ?_) (fun q41 hF => ?_)
          · refine v_if_ne (pc := 604) 628 dL_law_604 rfl (fun hc => ?_) (fun hc => ?_)
            · replace hF := (ifP hF).2 hc
              exact v_room (k' := 397 * m + k + 393) (n' := 3018 * m + n + 2994) (by omega) (by omega) <| v_lle [some (sr (some (gxb G))), some (sr c1), some (sr c2), some (sr c3), some (sr c4), some (sr c5), some (sr c6), some (sr c7), none, some (si a.2.1), none, some (si q2), some (si (q1 / (26 : Int32))), some (si q4), none, some (si q40), none, none] ⟨rfl, rfl, rfl, rfl, rfl, rfl, rfl, rfl, rfl, rfl, rfl, rfl, rfl, trivial⟩ (hj41 (q40, a.2.2) hF)
            replace hF := (ifP hF).1 hc
            refine v_aload (pc := 607) (i := 4) dL_law_607 rfl ?_
            refine v_iload (pc := 609) (i := 13) dL_law_609 rfl ?_
            refine v_aload_n (pc := 611) (i := 1) dL_law_611 rfl rfl ?_
            refine v_iload (pc := 612) (i := 12) dL_law_612 rfl ?_
            refine yw_S (pc := 614) (as := [sr c1, si (q1 / (26 : Int32))]) (st := [si q4, sr c4]) (N := mL_drafts) (k := 397 * m + k + 393) (n := 3018 * m + n + 2994) (k1 := 4) (n1 := 24) gL _ dL_law_614 lkL_222 caL_drafts csL_drafts rfl rfl (tL_drafts c1 (q1 / (26 : Int32)) a.2.2 _ _ (fun x9 h9 hx => ⟨x9, rfl, hx⟩) hF) ⟨by decide, by decide⟩ (Nat.le_of_ble_eq_true rfl) (fun x42 h43 hF => ?_)
            show gV G (mLaw nm hh) 60 Q 617 [some (sr (some (gxb G))), some (sr c1), some (sr c2), some (sr c3), some (sr c4), some (sr c5), some (sr c6), some (sr c7), none, some (si a.2.1), none, some (si q2), some (si (q1 / (26 : Int32))), some (si q4), none, some (si q40), none, none] [sl x42, si q4, sr c4] (397 * m + k + 393) (3018 * m + n + 2994) h43
            refine s_last (f := some) (pc := 617) dL_law_617 (okB_bs hF) (fun h44 hF => ?_)
            replace hF := okB_some hF
            refine v_aload (pc := 618) (i := 4) dL_law_618 rfl ?_
            refine v_iload (pc := 620) (i := 13) dL_law_620 rfl ?_
            refine s_lald (f := some) (pc := 622) dL_law_622 (okB_bs hF) (fun x45 hF => ?_)
            replace hF := okB_some hF
            refine yp_S (pc := 623) gI (as := [sl x45]) (st := []) (N := mL_nameMany) (k := 397 * m + k + 393) (n := 3018 * m + n + 2994) (k1 := 0) (n1 := 0) dL_law_623 lkL_34 caL_nameMany csL_nameMany rfl (fun Q1 hq => tL_nameMany x45 h44 Q1 hq) ⟨by decide, by decide⟩ (Nat.le_of_ble_eq_true rfl) hF (fun x46 hF => ?_)
            show gV G (mLaw nm hh) 60 Q 626 [some (sr (some (gxb G))), some (sr c1), some (sr c2), some (sr c3), some (sr c4), some (sr c5), some (sr c6), some (sr c7), none, some (si a.2.1), none, some (si q2), some (si (q1 / (26 : Int32))), some (si q4), none, some (si q40), none, none] [si x46] (397 * m + k + 393) (3018 * m + n + 2994) h44
            refine v_istore (pc := 626) (i := 15) [some (sr (some (gxb G))), some (sr c1), some (sr c2), some (sr c3), some (sr c4), some (sr c5), some (sr c6), some (sr c7), none, some (si a.2.1), none, some (si q2), some (si (q1 / (26 : Int32))), some (si q4), none, some (si x46), none, none] dL_law_626 (show 15 < 18 by decide) rfl rfl ?_
            exact v_lle [some (sr (some (gxb G))), some (sr c1), some (sr c2), some (sr c3), some (sr c4), some (sr c5), some (sr c6), some (sr c7), none, some (si a.2.1), none, some (si q2), some (si (q1 / (26 : Int32))), some (si q4), none, some (si x46), none, none] ⟨rfl, rfl, rfl, rfl, rfl, rfl, rfl, rfl, rfl, rfl, rfl, rfl, rfl, trivial⟩ (hj41 (x46, h44) hF)
          refine v_aload_n (pc := 628) (i := 1) dL_law_628 rfl rfl ?_
          refine v_iconst (pc := 629) (v := (3 : Int32)) dL_law_629 rfl ?_
          refine v_iload (pc := 630) (i := 13) dL_law_630 rfl ?_
          refine v_iconst (pc := 632) (v := (0 : Int32)) dL_law_632 rfl ?_
          refine v_iconst (pc := 633) (v := (0 : Int32)) dL_law_633 rfl ?_
          refine ye_S (pc := 634) (as := [sr c1, si (3 : Int32), si q4, si (0 : Int32), si (0 : Int32)]) (st := []) (N := mL_does) (k := 397 * m + k + 383) (n := 3018 * m + n + 2651) (k1 := 10) (n1 := 343) dL_law_634 lkL_194 caL_does rfl (fun Q1 hq => tL_does c1 (3 : Int32) q4 (0 : Int32) (0 : Int32) q41.2 Q1 hq) ⟨by decide, by decide⟩ (Nat.le_of_ble_eq_true rfl) hF (fun x47 h48 hF => ?_)
          show gV G (mLaw nm hh) 60 Q 637 [some (sr (some (gxb G))), some (sr c1), some (sr c2), some (sr c3), some (sr c4), some (sr c5), some (sr c6), some (sr c7), none, some (si a.2.1), none, some (si q2), some (si (q1 / (26 : Int32))), some (si q4), none, some (si q41.1), none, none] [si x47] (397 * m + k + 383) (3018 * m + n + 2651) h48
          refine v_iload (pc := 637) (i := 15) dL_law_637 rfl ?_
          refine v_icmp_ne (pc := 639) 646 dL_law_639 rfl (fun hc => ?_) (fun hc => ?_)
          · replace hF := (ifP hF).2 hc
            refine v_iconst (pc := 646) (v := (0 : Int32)) dL_law_646 rfl ?_
            refine v_istore (pc := 647) (i := 8) [some (sr (some (gxb G))), some (sr c1), some (sr c2), some (sr c3), some (sr c4), some (sr c5), some (sr c6), some (sr c7), some (si (0 : Int32)), some (si a.2.1), none, some (si q2), some (si (q1 / (26 : Int32))), some (si q4), none, some (si q41.1), none, none] dL_law_647 (show 8 < 18 by decide) rfl rfl ?_
            refine v_goto (pc := 649) 950 dL_law_649 rfl ?_
            exact v_lle [some (sr (some (gxb G))), some (sr c1), some (sr c2), some (sr c3), some (sr c4), some (sr c5), some (sr c6), some (sr c7), some (si (0 : Int32)), some (si a.2.1), none, some (si q2), some (si (q1 / (26 : Int32))), none, none, none, none, none] ⟨rfl, rfl, rfl, rfl, rfl, rfl, rfl, rfl, rfl, rfl, rfl, rfl, trivial⟩ (hj6 ((0 : Int32), h48) hF)
          replace hF := (ifP hF).1 hc
          refine v_iconst (pc := 642) (v := (1 : Int32)) dL_law_642 rfl ?_
          refine v_goto (pc := 643) 647 dL_law_643 rfl ?_
          refine v_istore (pc := 647) (i := 8) [some (sr (some (gxb G))), some (sr c1), some (sr c2), some (sr c3), some (sr c4), some (sr c5), some (sr c6), some (sr c7), some (si (1 : Int32)), some (si a.2.1), none, some (si q2), some (si (q1 / (26 : Int32))), some (si q4), none, some (si q41.1), none, none] dL_law_647 (show 8 < 18 by decide) rfl rfl ?_
          refine v_goto (pc := 649) 950 dL_law_649 rfl ?_
          exact v_lle [some (sr (some (gxb G))), some (sr c1), some (sr c2), some (sr c3), some (sr c4), some (sr c5), some (sr c6), some (sr c7), some (si (1 : Int32)), some (si a.2.1), none, some (si q2), some (si (q1 / (26 : Int32))), none, none, none, none, none] ⟨rfl, rfl, rfl, rfl, rfl, rfl, rfl, rfl, rfl, rfl, rfl, rfl, trivial⟩ (hj6 ((1 : Int32), h48) hF)
        replace hF := (ifP hF).1 hc
        refine v_iload (pc := 416) (i := 12) dL_law_416 rfl ?_
        refine v_bipush (pc := 418) (v := (10 : Int32)) dL_law_418 rfl ?_
        refine s_idiv (f := some) (pc := 420) dL_law_420 (okB_bs hF) (fun hF => ?_)
        replace hF := okB_some hF
        refine v_iconst (pc := 421) (v := (3 : Int32)) dL_law_421 rfl ?_
        refine s_irem (f := some) (pc := 422) dL_law_422 (okB_bs hF) (fun hF => ?_)
        replace hF := okB_some hF
        refine mgW (X := fun q49 => gV G (mLaw nm hh) 60 Q 431 [some (sr (some (gxb G))), some (sr c1), some (sr c2), some (sr c3), some (sr c4), some (sr c5), some (sr c6), some (sr c7), none, some (si a.2.1), none, some (si q2), some (si (q1 / (26 : Int32))), some (si q4), some (si x5), none, none, none] [si q49] (397 * m + k + 393) (3018 * m + n + 2994) a.2.2) hF (fun K49 hj49 hF => ?_) (fun q49 hF => ?_)
        · refine v_if_le (pc := 423) 430 dL_law_423 rfl (fun hc => ?_) (fun hc => ?_)
          · replace hF := (ifP hF).1 hc
            refine v_iconst (pc := 430) (v := (0 : Int32)) dL_law_430 rfl ?_
            exact v_room (k' := 397 * m + k + 393) (n' := 3018 * m + n + 2994) (by omega) (by omega) <| v_lle [some (sr (some (gxb G))), some (sr c1), some (sr c2), some (sr c3), some (sr c4), some (sr c5), some (sr c6), some (sr c7), none, some (si a.2.1), none, some (si q2), some (si (q1 / (26 : Int32))), some (si q4), some (si x5), none, none, none] ⟨rfl, rfl, rfl, rfl, rfl, rfl, rfl, rfl, rfl, rfl, rfl, rfl, rfl, trivial⟩ (hj49 (0 : Int32) hF)
          replace hF := (ifP hF).2 hc
          refine v_iconst (pc := 426) (v := (1 : Int32)) dL_law_426 rfl ?_
          refine v_goto (pc := 427) 431 dL_law_427 rfl ?_
          exact v_room (k' := 397 * m + k + 393) (n' := 3018 * m + n + 2994) (by omega) (by omega) <| v_lle [some (sr (some (gxb G))), some (sr c1), some (sr c2), some (sr c3), some (sr c4), some (sr c5), some (sr c6), some (sr c7), none, some (si a.2.1), none, some (si q2), some (si (q1 / (26 : Int32))), some (si q4), some (si x5), none, none, none] ⟨rfl, rfl, rfl, rfl, rfl, rfl, rfl, rfl, rfl, rfl, rfl, rfl, rfl, trivial⟩ (hj49 (1 : Int32) hF)
        refine v_istore (pc := 431) (i := 15) [some (sr (some (gxb G))), some (sr c1), some (sr c2), some (sr c3), some (sr c4), some (sr c5), some (sr c6), some (sr c7), none, some (si a.2.1), none, some (si q2), some (si (q1 / (26 : Int32))), some (si q4), some (si x5), some (si q49), none, none] dL_law_431 (show 15 < 18 by decide) rfl rfl ?_
        refine v_iload (pc := 433) (i := 14) dL_law_433 rfl ?_
        refine mgW (X := fun q50 => gV G (mLaw nm hh) 60 Q 467 [some (sr (some (gxb G))), some (sr c1), some (sr c2), some (sr c3), some (sr c4), some (sr c5), some (sr c6), some (sr c7), none, some (si a.2.1), none, some (si q2), some (si (q1 / (26 : Int32))), some (si q4), none, some (si q49), none, none] [si q50] (397 * m + k + 393) (3018 * m + n + 2994) a.2.2) hF (fun K50 hj50 hF => ?_) (fun q50 hF => ?_)
        · refine v_if_ne (pc := 435) 443 dL_law_435 rfl (fun hc => ?_) (fun hc => ?_)
          · replace hF := (ifP hF).2 hc
            refine v_iload (pc := 443) (i := 13) dL_law_443 rfl ?_
            refine v_if_ne (pc := 445) 453 dL_law_445 rfl (fun hc => ?_) (fun hc => ?_)
            · replace hF := (ifP hF).2 hc
              refine v_aload_n (pc := 453) (i := 3) dL_law_453 rfl rfl ?_
              refine v_iload (pc := 454) (i := 13) dL_law_454 rfl ?_
              refine yp_S (pc := 456) gI (as := [sr c3, si q4]) (st := []) (N := mL_isHidden) (k := 397 * m + k + 393) (n := 3018 * m + n + 2994) (k1 := 0) (n1 := 0) dL_law_456 lkL_13 caL_isHidden csL_isHidden rfl (fun Q1 hq => tL_isHidden c3 q4 a.2.2 Q1 hq) ⟨by decide, by decide⟩ (Nat.le_of_ble_eq_true rfl) hF (fun x51 hF => ?_)
              show gV G (mLaw nm hh) 60 Q 459 [some (sr (some (gxb G))), some (sr c1), some (sr c2), some (sr c3), some (sr c4), some (sr c5), some (sr c6), some (sr c7), none, some (si a.2.1), none, some (si q2), some (si (q1 / (26 : Int32))), some (si q4), some (si x5), some (si q49), none, none] [si x51] (397 * m + k + 393) (3018 * m + n + 2994) a.2.2
              refine v_if_eq (pc := 459) 466 dL_law_459 rfl (fun hc => ?_) (fun hc => ?_)
              · replace hF := (ifP hF).1 hc
                refine v_iconst (pc := 466) (v := (0 : Int32)) dL_law_466 rfl ?_
                exact v_lle [some (sr (some (gxb G))), some (sr c1), some (sr c2), some (sr c3), some (sr c4), some (sr c5), some (sr c6), some (sr c7), none, some (si a.2.1), none, some (si q2), some (si (q1 / (26 : Int32))), some (si q4), none, some (si q49), none, none] ⟨rfl, rfl, rfl, rfl, rfl, rfl, rfl, rfl, rfl, rfl, rfl, rfl, rfl, trivial⟩ (hj50 (0 : Int32) hF)
              replace hF := (ifP hF).2 hc
              refine v_iconst (pc := 462) (v := (1 : Int32)) dL_law_462 rfl ?_
              refine v_goto (pc := 463) 467 dL_law_463 rfl ?_
              exact v_lle [some (sr (some (gxb G))), some (sr c1), some (sr c2), some (sr c3), some (sr c4), some (sr c5), some (sr c6), some (sr c7), none, some (si a.2.1), none, some (si q2), some (si (q1 / (26 : Int32))), some (si q4), none, some (si q49), none, none] ⟨rfl, rfl, rfl, rfl, rfl, rfl, rfl, rfl, rfl, rfl, rfl, rfl, rfl, trivial⟩ (hj50 (1 : Int32) hF)
            replace hF := (ifP hF).1 hc
            refine v_bipush (pc := 448) (v := (-13 : Int32)) dL_law_448 rfl ?_
            refine v_goto (pc := 450) 467 dL_law_450 rfl ?_
            exact v_lle [some (sr (some (gxb G))), some (sr c1), some (sr c2), some (sr c3), some (sr c4), some (sr c5), some (sr c6), some (sr c7), none, some (si a.2.1), none, some (si q2), some (si (q1 / (26 : Int32))), some (si q4), none, some (si q49), none, none] ⟨rfl, rfl, rfl, rfl, rfl, rfl, rfl, rfl, rfl, rfl, rfl, rfl, rfl, trivial⟩ (hj50 (-13 : Int32) hF)
          replace hF := (ifP hF).1 hc
          refine v_bipush (pc := 438) (v := (-11 : Int32)) dL_law_438 rfl ?_
          refine v_goto (pc := 440) 467 dL_law_440 rfl ?_
          exact v_lle [some (sr (some (gxb G))), some (sr c1), some (sr c2), some (sr c3), some (sr c4), some (sr c5), some (sr c6), some (sr c7), none, some (si a.2.1), none, some (si q2), some (si (q1 / (26 : Int32))), some (si q4), none, some (si q49), none, none] ⟨rfl, rfl, rfl, rfl, rfl, rfl, rfl, rfl, rfl, rfl, rfl, rfl, rfl, trivial⟩ (hj50 (-11 : Int32) hF)
        refine v_istore (pc := 467) (i := 16) [some (sr (some (gxb G))), some (sr c1), some (sr c2), some (sr c3), some (sr c4), some (sr c5), some (sr c6), some (sr c7), none, some (si a.2.1), none, some (si q2), some (si (q1 / (26 : Int32))), some (si q4), none, some (si q49), some (si q50), none] dL_law_467 (show 16 < 18 by decide) rfl rfl ?_
        refine v_iload (pc := 469) (i := 16) dL_law_469 rfl ?_
        refine mgW (X := fun q52 => gV G (mLaw nm hh) 60 Q 539 [some (sr (some (gxb G))), some (sr c1), some (sr c2), some (sr c3), some (sr c4), some (sr c5), some (sr c6), some (sr c7), none, some (si a.2.1), none, some (si q2), some (si (q1 / (26 : Int32))), some (si q4), none, some (si q49), some (si q50), none] [] (397 * m + k + 393) (3018 * m + n + 2994) q52) hF (fun K52 hj52 hF => ?_) (fun q52 hF => ?_)
        · refine v_if_lt (pc := 471) 539 dL_law_471 rfl (fun hc => ?_) (fun hc => ?_)
          · replace hF := (ifP hF).1 hc
            exact v_lle [some (sr (some (gxb G))), some (sr c1), some (sr c2), some (sr c3), some (sr c4), some (sr c5), some (sr c6), some (sr c7), none, some (si a.2.1), none, some (si q2), some (si (q1 / (26 : Int32))), some (si q4), none, some (si q49), some (si q50), none] ⟨rfl, rfl, rfl, rfl, rfl, rfl, rfl, rfl, rfl, rfl, rfl, rfl, rfl, rfl, trivial⟩ (hj52 a.2.2 hF)
          replace hF := (ifP hF).2 hc
          refine v_aload_n (pc := 474) (i := 3) dL_law_474 rfl rfl ?_
          refine v_bipush (pc := 475) (v := (6 : Int32)) dL_law_475 rfl ?_
          refine v_iload (pc := 477) (i := 13) dL_law_477 rfl ?_
          refine v_imul (pc := 479) dL_law_479 ?_
          refine v_iconst (pc := 480) (v := (3 : Int32)) dL_law_480 rfl ?_
          refine v_iadd (pc := 481) dL_law_481 ?_
          refine v_iload (pc := 482) (i := 15) dL_law_482 rfl ?_
          refine mgW (X := fun q53 => gV G (mLaw nm hh) 60 Q 513 [some (sr (some (gxb G))), some (sr c1), some (sr c2), some (sr c3), some (sr c4), some (sr c5), some (sr c6), some (sr c7), none, some (si a.2.1), none, some (si q2), some (si (q1 / (26 : Int32))), some (si q4), none, some (si q49), some (si q50), none] [si q53, si (((6 : Int32) * q4) + (3 : Int32)), sr c3] (397 * m + k + 393) (3018 * m + n + 2994) a.2.2) hF (fun K53 hj53 hF => ?_) (fun q53 hF => ?_)
          · refine v_if_eq (pc := 484) 501 dL_law_484 rfl (fun hc => ?_) (fun hc => ?_)
            · replace hF := (ifP hF).1 hc
              refine v_aload_n (pc := 501) (i := 3) dL_law_501 rfl rfl ?_
              refine v_bipush (pc := 502) (v := (6 : Int32)) dL_law_502 rfl ?_
              refine v_iload (pc := 504) (i := 13) dL_law_504 rfl ?_
              refine v_imul (pc := 506) dL_law_506 ?_
              refine v_iconst (pc := 507) (v := (3 : Int32)) dL_law_507 rfl ?_
              refine v_iadd (pc := 508) dL_law_508 ?_
              refine s_iald (f := some) (pc := 509) dL_law_509 (okB_bs hF) (fun x54 hF => ?_)
              replace hF := okB_some hF
              refine v_bipush (pc := 510) (v := (-3 : Int32)) dL_law_510 rfl ?_
              refine v_iand (pc := 512) dL_law_512 ?_
              exact v_lle [some (sr (some (gxb G))), some (sr c1), some (sr c2), some (sr c3), some (sr c4), some (sr c5), some (sr c6), some (sr c7), none, some (si a.2.1), none, some (si q2), some (si (q1 / (26 : Int32))), some (si q4), none, some (si q49), some (si q50), none] ⟨rfl, rfl, rfl, rfl, rfl, rfl, rfl, rfl, rfl, rfl, rfl, rfl, rfl, rfl, trivial⟩ (hj53 (x54 &&& (-3 : Int32)) hF)
            replace hF := (ifP hF).2 hc
            refine v_aload_n (pc := 487) (i := 3) dL_law_487 rfl rfl ?_
            refine v_bipush (pc := 488) (v := (6 : Int32)) dL_law_488 rfl ?_
            refine v_iload (pc := 490) (i := 13) dL_law_490 rfl ?_
            refine v_imul (pc := 492) dL_law_492 ?_
            refine v_iconst (pc := 493) (v := (3 : Int32)) dL_law_493 rfl ?_
            refine v_iadd (pc := 494) dL_law_494 ?_
            refine s_iald (f := some) (pc := 495) dL_law_495 (okB_bs hF) (fun x55 hF => ?_)
            replace hF := okB_some hF
            refine v_iconst (pc := 496) (v := (2 : Int32)) dL_law_496 rfl ?_
            refine v_ior (pc := 497) dL_law_497 ?_
            refine v_goto (pc := 498) 513 dL_law_498 rfl ?_
            exact v_lle [some (sr (some (gxb G))), some (sr c1), some (sr c2), some (sr c3), some (sr c4), some (sr c5), some (sr c6), some (sr c7), none, some (si a.2.1), none, some (si q2), some (si (q1 / (26 : Int32))), some (si q4), none, some (si q49), some (si q50), none] ⟨rfl, rfl, rfl, rfl, rfl, rfl, rfl, rfl, rfl, rfl, rfl, rfl, rfl, rfl, trivial⟩ (hj53 (x55 ||| (2 : Int32)) hF)
          refine s_iast (f := some) (pc := 513) dL_law_513 (okB_bs hF) (fun h56 hF => ?_)
          replace hF := okB_some hF
          refine v_aload_n (pc := 514) (i := 2) dL_law_514 rfl rfl ?_
          refine v_aload_n (pc := 515) (i := 3) dL_law_515 rfl rfl ?_
          refine v_aload_n (pc := 516) (i := 3) dL_law_516 rfl rfl ?_
          refine v_bipush (pc := 517) (v := (6 : Int32)) dL_law_517 rfl ?_
          refine v_iload (pc := 519) (i := 13) dL_law_519 rfl ?_
          refine v_imul (pc := 521) dL_law_521 ?_
          refine v_iconst (pc := 522) (v := (1 : Int32)) dL_law_522 rfl ?_
          refine v_iadd (pc := 523) dL_law_523 ?_
          refine s_iald (f := some) (pc := 524) dL_law_524 (okB_bs hF) (fun x57 hF => ?_)
          replace hF := okB_some hF
          refine v_aload_n (pc := 525) (i := 3) dL_law_525 rfl rfl ?_
          refine v_bipush (pc := 526) (v := (6 : Int32)) dL_law_526 rfl ?_
          refine v_iload (pc := 528) (i := 13) dL_law_528 rfl ?_
          refine v_imul (pc := 530) dL_law_530 ?_
          refine v_iconst (pc := 531) (v := (2 : Int32)) dL_law_531 rfl ?_
          refine v_iadd (pc := 532) dL_law_532 ?_
          refine s_iald (f := some) (pc := 533) dL_law_533 (okB_bs hF) (fun x58 hF => ?_)
          replace hF := okB_some hF
          refine v_iconst (pc := 534) (v := (1 : Int32)) dL_law_534 rfl ?_
          refine v_iadd (pc := 535) dL_law_535 ?_
          refine yh_S (pc := 536) gU (as := [sr c2, sr c3, si x57, si (x58 + (1 : Int32))]) (st := []) (N := mL_loses) (k := 397 * m + k + 393) (n := 3018 * m + n + 2994) (k1 := 0) (n1 := 0) dL_law_536 lkL_219 caL_loses csL_loses rfl (fun Q1 hq => tL_loses c2 c3 x57 (x58 + (1 : Int32)) h56 Q1 hq) ⟨by decide, by decide⟩ (Nat.le_of_ble_eq_true rfl) hF (fun _ h59 hF => ?_)
          show gV G (mLaw nm hh) 60 Q 539 [some (sr (some (gxb G))), some (sr c1), some (sr c2), some (sr c3), some (sr c4), some (sr c5), some (sr c6), some (sr c7), none, some (si a.2.1), none, some (si q2), some (si (q1 / (26 : Int32))), some (si q4), none, some (si q49), some (si q50), none] [] (397 * m + k + 393) (3018 * m + n + 2994) h59
          exact v_lle [some (sr (some (gxb G))), some (sr c1), some (sr c2), some (sr c3), some (sr c4), some (sr c5), some (sr c6), some (sr c7), none, some (si a.2.1), none, some (si q2), some (si (q1 / (26 : Int32))), some (si q4), none, some (si q49), some (si q50), none] ⟨rfl, rfl, rfl, rfl, rfl, rfl, rfl, rfl, rfl, rfl, rfl, rfl, rfl, rfl, trivial⟩ (hj52 h59 hF)
        refine v_aload_n (pc := 539) (i := 1) dL_law_539 rfl rfl ?_
        refine v_iconst (pc := 540) (v := (2 : Int32)) dL_law_540 rfl ?_
        refine v_iload (pc := 541) (i := 13) dL_law_541 rfl ?_
        refine v_iload (pc := 543) (i := 15) dL_law_543 rfl ?_
        refine mgW (X := fun q60 => gV G (mLaw nm hh) 60 Q 553 [some (sr (some (gxb G))), some (sr c1), some (sr c2), some (sr c3), some (sr c4), some (sr c5), some (sr c6), some (sr c7), none, some (si a.2.1), none, some (si q2), some (si (q1 / (26 : Int32))), none, none, none, some (si q50), none] [si q60, si q4, si (2 : Int32), sr c1] (397 * m + k + 393) (3018 * m + n + 2994) q52) hF (fun K60 hj60 hF => ?_) (fun q60 hF => ?_)
        · refine v_if_eq (pc := 545) 552 dL_law_545 rfl (fun hc => ?_) (fun hc => ?_)
          · replace hF := (ifP hF).1 hc
            refine v_iconst (pc := 552) (v := (0 : Int32)) dL_law_552 rfl ?_
            exact v_lle [some (sr (some (gxb G))), some (sr c1), some (sr c2), some (sr c3), some (sr c4), some (sr c5), some (sr c6), some (sr c7), none, some (si a.2.1), none, some (si q2), some (si (q1 / (26 : Int32))), none, none, none, some (si q50), none] ⟨rfl, rfl, rfl, rfl, rfl, rfl, rfl, rfl, rfl, rfl, rfl, rfl, trivial⟩ (hj60 (0 : Int32) hF)
          replace hF := (ifP hF).2 hc
          refine v_iconst (pc := 548) (v := (1 : Int32)) dL_law_548 rfl ?_
          refine v_goto (pc := 549) 553 dL_law_549 rfl ?_
          exact v_lle [some (sr (some (gxb G))), some (sr c1), some (sr c2), some (sr c3), some (sr c4), some (sr c5), some (sr c6), some (sr c7), none, some (si a.2.1), none, some (si q2), some (si (q1 / (26 : Int32))), none, none, none, some (si q50), none] ⟨rfl, rfl, rfl, rfl, rfl, rfl, rfl, rfl, rfl, rfl, rfl, rfl, trivial⟩ (hj60 (1 : Int32) hF)
        refine v_iconst (pc := 553) (v := (0 : Int32)) dL_law_553 rfl ?_
        refine ye_S (pc := 554) (as := [sr c1, si (2 : Int32), si q4, si q60, si (0 : Int32)]) (st := []) (N := mL_does) (k := 397 * m + k + 383) (n := 3018 * m + n + 2651) (k1 := 10) (n1 := 343) dL_law_554 lkL_194 caL_does rfl (fun Q1 hq => tL_does c1 (2 : Int32) q4 q60 (0 : Int32) q52 Q1 hq) ⟨by decide, by decide⟩ (Nat.le_of_ble_eq_true rfl) hF (fun x61 h62 hF => ?_)
        show gV G (mLaw nm hh) 60 Q 557 [some (sr (some (gxb G))), some (sr c1), some (sr c2), some (sr c3), some (sr c4), some (sr c5), some (sr c6), some (sr c7), none, some (si a.2.1), none, some (si q2), some (si (q1 / (26 : Int32))), none, none, none, some (si q50), none] [si x61] (397 * m + k + 383) (3018 * m + n + 2651) h62
        refine v_iload (pc := 557) (i := 16) dL_law_557 rfl ?_
        refine v_icmp_ne (pc := 559) 566 dL_law_559 rfl (fun hc => ?_) (fun hc => ?_)
        · replace hF := (ifP hF).2 hc
          refine v_iconst (pc := 566) (v := (0 : Int32)) dL_law_566 rfl ?_
          refine v_istore (pc := 567) (i := 8) [some (sr (some (gxb G))), some (sr c1), some (sr c2), some (sr c3), some (sr c4), some (sr c5), some (sr c6), some (sr c7), some (si (0 : Int32)), some (si a.2.1), none, some (si q2), some (si (q1 / (26 : Int32))), none, none, none, some (si q50), none] dL_law_567 (show 8 < 18 by decide) rfl rfl ?_
          refine v_goto (pc := 569) 950 dL_law_569 rfl ?_
          exact v_lle [some (sr (some (gxb G))), some (sr c1), some (sr c2), some (sr c3), some (sr c4), some (sr c5), some (sr c6), some (sr c7), some (si (0 : Int32)), some (si a.2.1), none, some (si q2), some (si (q1 / (26 : Int32))), none, none, none, none, none] ⟨rfl, rfl, rfl, rfl, rfl, rfl, rfl, rfl, rfl, rfl, rfl, rfl, trivial⟩ (hj6 ((0 : Int32), h62) hF)
        replace hF := (ifP hF).1 hc
        refine v_iconst (pc := 562) (v := (1 : Int32)) dL_law_562 rfl ?_
        refine v_goto (pc := 563) 567 dL_law_563 rfl ?_
        refine v_istore (pc := 567) (i := 8) [some (sr (some (gxb G))), some (sr c1), some (sr c2), some (sr c3), some (sr c4), some (sr c5), some (sr c6), some (sr c7), some (si (1 : Int32)), some (si a.2.1), none, some (si q2), some (si (q1 / (26 : Int32))), none, none, none, some (si q50), none] dL_law_567 (show 8 < 18 by decide) rfl rfl ?_
        refine v_goto (pc := 569) 950 dL_law_569 rfl ?_
        exact v_lle [some (sr (some (gxb G))), some (sr c1), some (sr c2), some (sr c3), some (sr c4), some (sr c5), some (sr c6), some (sr c7), some (si (1 : Int32)), some (si a.2.1), none, some (si q2), some (si (q1 / (26 : Int32))), none, none, none, none, none] ⟨rfl, rfl, rfl, rfl, rfl, rfl, rfl, rfl, rfl, rfl, rfl, rfl, trivial⟩ (hj6 ((1 : Int32), h62) hF)
      replace hF := (ifP hF).2 hc
      refine v_aload_n (pc := 216) (i := 2) dL_law_216 rfl rfl ?_
      refine v_iconst (pc := 217) (v := (0 : Int32)) dL_law_217 rfl ?_
      refine s_iald (f := some) (pc := 218) dL_law_218 (okB_bs hF) (fun x63 hF => ?_)
      replace hF := okB_some hF
      refine v_bipush (pc := 219) (v := (10 : Int32)) dL_law_219 rfl ?_
      refine v_icmp_ge (pc := 221) 344 dL_law_221 rfl (fun hc => ?_) (fun hc => ?_)
      · replace hF := (ifP hF).1 hc
        refine v_iload (pc := 344) (i := 11) dL_law_344 rfl ?_
        refine v_iconst (pc := 346) (v := (4 : Int32)) dL_law_346 rfl ?_
        refine mgW (X := fun q64 => gV G (mLaw nm hh) 60 Q 410 [some (sr (some (gxb G))), some (sr c1), some (sr c2), some (sr c3), some (sr c4), some (sr c5), some (sr c6), some (sr c7), none, some (si a.2.1), none, some (si q2), some (si (q1 / (26 : Int32))), some (si q4), some (si x5), none, none, none] [] (397 * m + k + 397) (3018 * m + n + 3018) a.2.2) hF (fun K64 hj64 hF => ?_) (fun q64 hF => ?_)
        · refine v_icmp_ne (pc := 347) 410 dL_law_347 rfl (fun hc => ?_) (fun hc => ?_)
          · replace hF := (ifP hF).2 hc
            exact v_lle [some (sr (some (gxb G))), some (sr c1), some (sr c2), some (sr c3), some (sr c4), some (sr c5), some (sr c6), some (sr c7), none, some (si a.2.1), none, some (si q2), some (si (q1 / (26 : Int32))), some (si q4), some (si x5), none, none, none] ⟨rfl, rfl, rfl, rfl, rfl, rfl, rfl, rfl, rfl, rfl, rfl, rfl, rfl, trivial⟩ (hj64 () hF)
          replace hF := (ifP hF).1 hc
          refine v_iload (pc := 350) (i := 12) dL_law_350 rfl ?_
          refine v_iconst (pc := 352) (v := (3 : Int32)) dL_law_352 rfl ?_
          refine s_irem (f := some) (pc := 353) dL_law_353 (okB_bs hF) (fun hF => ?_)
          replace hF := okB_some hF
          refine v_if_ne (pc := 354) 410 dL_law_354 rfl (fun hc => ?_) (fun hc => ?_)
          · replace hF := (ifP hF).2 hc
            exact v_lle [some (sr (some (gxb G))), some (sr c1), some (sr c2), some (sr c3), some (sr c4), some (sr c5), some (sr c6), some (sr c7), none, some (si a.2.1), none, some (si q2), some (si (q1 / (26 : Int32))), some (si q4), some (si x5), none, none, none] ⟨rfl, rfl, rfl, rfl, rfl, rfl, rfl, rfl, rfl, rfl, rfl, rfl, rfl, trivial⟩ (hj64 () hF)
          replace hF := (ifP hF).1 hc
          refine v_iload (pc := 357) (i := 14) dL_law_357 rfl ?_
          refine mgW (X := fun q65 => gV G (mLaw nm hh) 60 Q 384 [some (sr (some (gxb G))), some (sr c1), some (sr c2), some (sr c3), some (sr c4), some (sr c5), some (sr c6), some (sr c7), none, some (si a.2.1), none, some (si q2), some (si (q1 / (26 : Int32))), some (si q4), none, none, none, none] [si q65.1] (397 * m + k + 393) (3018 * m + n + 2994) q65.2) hF (fun K65 hj65 hF => ?_) (fun q65 hF => ?_)
          · refine v_if_ne (pc := 359) 367 dL_law_359 rfl (fun hc => ?_) (fun hc => ?_)
            · replace hF := (ifP hF).2 hc
              refine v_iload (pc := 367) (i := 13) dL_law_367 rfl ?_
              refine v_if_ne (pc := 369) 377 dL_law_369 rfl (fun hc => ?_) (fun hc => ?_)
              · replace hF := (ifP hF).2 hc
                refine v_aload_n (pc := 377) (i := 2) dL_law_377 rfl rfl ?_
                refine v_aload_n (pc := 378) (i := 3) dL_law_378 rfl rfl ?_
                refine v_iload (pc := 379) (i := 13) dL_law_379 rfl ?_
                refine yh_S (pc := 381) gI (as := [sr c2, sr c3, si q4]) (st := []) (N := mL_removes) (k := 397 * m + k + 397) (n := 3018 * m + n + 3018) (k1 := 0) (n1 := 0) dL_law_381 lkL_237 caL_removes csL_removes rfl (fun Q1 hq => tL_removes c2 c3 q4 a.2.2 Q1 hq) ⟨by decide, by decide⟩ (Nat.le_of_ble_eq_true rfl) hF (fun x66 h67 hF => ?_)
                show gV G (mLaw nm hh) 60 Q 384 [some (sr (some (gxb G))), some (sr c1), some (sr c2), some (sr c3), some (sr c4), some (sr c5), some (sr c6), some (sr c7), none, some (si a.2.1), none, some (si q2), some (si (q1 / (26 : Int32))), some (si q4), some (si x5), none, none, none] [si x66] (397 * m + k + 397) (3018 * m + n + 3018) h67
                exact v_room (k' := 397 * m + k + 393) (n' := 3018 * m + n + 2994) (by omega) (by omega) <| v_lle [some (sr (some (gxb G))), some (sr c1), some (sr c2), some (sr c3), some (sr c4), some (sr c5), some (sr c6), some (sr c7), none, some (si a.2.1), none, some (si q2), some (si (q1 / (26 : Int32))), some (si q4), none, none, none, none] ⟨rfl, rfl, rfl, rfl, rfl, rfl, rfl, rfl, rfl, rfl, rfl, rfl, trivial⟩ (hj65 (x66, h67) hF)
              replace hF := (ifP hF).1 hc
              refine v_bipush (pc := 372) (v := (-13 : Int32)) dL_law_372 rfl ?_
              refine v_goto (pc := 374) 384 dL_law_374 rfl ?_
              exact v_room (k' := 397 * m + k + 393) (n' := 3018 * m + n + 2994) (by omega) (by omega) <| v_lle [some (sr (some (gxb G))), some (sr c1), some (sr c2), some (sr c3), some (sr c4), some (sr c5), some (sr c6), some (sr c7), none, some (si a.2.1), none, some (si q2), some (si (q1 / (26 : Int32))), some (si q4), none, none, none, none] ⟨rfl, rfl, rfl, rfl, rfl, rfl, rfl, rfl, rfl, rfl, rfl, rfl, trivial⟩ (hj65 ((-13 : Int32), a.2.2) hF)
            replace hF := (ifP hF).1 hc
            refine v_bipush (pc := 362) (v := (-11 : Int32)) dL_law_362 rfl ?_
            refine v_goto (pc := 364) 384 dL_law_364 rfl ?_
            exact v_room (k' := 397 * m + k + 393) (n' := 3018 * m + n + 2994) (by omega) (by omega) <| v_lle [some (sr (some (gxb G))), some (sr c1), some (sr c2), some (sr c3), some (sr c4), some (sr c5), some (sr c6), some (sr c7), none, some (si a.2.1), none, some (si q2), some (si (q1 / (26 : Int32))), some (si q4), none, none, none, none] ⟨rfl, rfl, rfl, rfl, rfl, rfl, rfl, rfl, rfl, rfl, rfl, rfl, trivial⟩ (hj65 ((-11 : Int32), a.2.2) hF)
          refine v_istore (pc := 384) (i := 15) [some (sr (some (gxb G))), some (sr c1), some (sr c2), some (sr c3), some (sr c4), some (sr c5), some (sr c6), some (sr c7), none, some (si a.2.1), none, some (si q2), some (si (q1 / (26 : Int32))), some (si q4), none, some (si q65.1), none, none] dL_law_384 (show 15 < 18 by decide) rfl rfl ?_
          refine v_aload_n (pc := 386) (i := 1) dL_law_386 rfl rfl ?_
          refine v_iconst (pc := 387) (v := (1 : Int32)) dL_law_387 rfl ?_
          refine v_iload (pc := 388) (i := 13) dL_law_388 rfl ?_
          refine v_iconst (pc := 390) (v := (0 : Int32)) dL_law_390 rfl ?_
          refine v_iconst (pc := 391) (v := (0 : Int32)) dL_law_391 rfl ?_
          refine ye_S (pc := 392) (as := [sr c1, si (1 : Int32), si q4, si (0 : Int32), si (0 : Int32)]) (st := []) (N := mL_does) (k := 397 * m + k + 383) (n := 3018 * m + n + 2651) (k1 := 10) (n1 := 343) dL_law_392 lkL_194 caL_does rfl (fun Q1 hq => tL_does c1 (1 : Int32) q4 (0 : Int32) (0 : Int32) q65.2 Q1 hq) ⟨by decide, by decide⟩ (Nat.le_of_ble_eq_true rfl) hF (fun x68 h69 hF => ?_)
          show gV G (mLaw nm hh) 60 Q 395 [some (sr (some (gxb G))), some (sr c1), some (sr c2), some (sr c3), some (sr c4), some (sr c5), some (sr c6), some (sr c7), none, some (si a.2.1), none, some (si q2), some (si (q1 / (26 : Int32))), some (si q4), none, some (si q65.1), none, none] [si x68] (397 * m + k + 383) (3018 * m + n + 2651) h69
          refine v_iload (pc := 395) (i := 15) dL_law_395 rfl ?_
          refine v_icmp_ne (pc := 397) 404 dL_law_397 rfl (fun hc => ?_) (fun hc => ?_)
          · replace hF := (ifP hF).2 hc
            refine v_iconst (pc := 404) (v := (0 : Int32)) dL_law_404 rfl ?_
            refine v_istore (pc := 405) (i := 8) [some (sr (some (gxb G))), some (sr c1), some (sr c2), some (sr c3), some (sr c4), some (sr c5), some (sr c6), some (sr c7), some (si (0 : Int32)), some (si a.2.1), none, some (si q2), some (si (q1 / (26 : Int32))), some (si q4), none, some (si q65.1), none, none] dL_law_405 (show 8 < 18 by decide) rfl rfl ?_
            refine v_goto (pc := 407) 950 dL_law_407 rfl ?_
            exact v_lle [some (sr (some (gxb G))), some (sr c1), some (sr c2), some (sr c3), some (sr c4), some (sr c5), some (sr c6), some (sr c7), some (si (0 : Int32)), some (si a.2.1), none, some (si q2), some (si (q1 / (26 : Int32))), none, none, none, none, none] ⟨rfl, rfl, rfl, rfl, rfl, rfl, rfl, rfl, rfl, rfl, rfl, rfl, trivial⟩ (hj6 ((0 : Int32), h69) hF)
          replace hF := (ifP hF).1 hc
          refine v_iconst (pc := 400) (v := (1 : Int32)) dL_law_400 rfl ?_
          refine v_goto (pc := 401) 405 dL_law_401 rfl ?_
          refine v_istore (pc := 405) (i := 8) [some (sr (some (gxb G))), some (sr c1), some (sr c2), some (sr c3), some (sr c4), some (sr c5), some (sr c6), some (sr c7), some (si (1 : Int32)), some (si a.2.1), none, some (si q2), some (si (q1 / (26 : Int32))), some (si q4), none, some (si q65.1), none, none] dL_law_405 (show 8 < 18 by decide) rfl rfl ?_
          refine v_goto (pc := 407) 950 dL_law_407 rfl ?_
          exact v_lle [some (sr (some (gxb G))), some (sr c1), some (sr c2), some (sr c3), some (sr c4), some (sr c5), some (sr c6), some (sr c7), some (si (1 : Int32)), some (si a.2.1), none, some (si q2), some (si (q1 / (26 : Int32))), none, none, none, none, none] ⟨rfl, rfl, rfl, rfl, rfl, rfl, rfl, rfl, rfl, rfl, rfl, rfl, trivial⟩ (hj6 ((1 : Int32), h69) hF)
        refine v_iload (pc := 410) (i := 11) dL_law_410 rfl ?_
        refine v_iconst (pc := 412) (v := (5 : Int32)) dL_law_412 rfl ?_
        refine v_icmp_ne (pc := 413) 572 dL_law_413 rfl (fun hc => ?_) (fun hc => ?_)
        · replace hF := (ifP hF).2 hc
          refine v_iload (pc := 572) (i := 11) dL_law_572 rfl ?_
          refine v_bipush (pc := 574) (v := (6 : Int32)) dL_law_574 rfl ?_
          refine v_icmp_ne (pc := 576) 652 dL_law_576 rfl (fun hc => ?_) (fun hc => ?_)
          · replace hF := (ifP hF).2 hc
            refine v_iload (pc := 652) (i := 11) dL_law_652 rfl ?_
            refine v_bipush (pc := 654) (v := (7 : Int32)) dL_law_654 rfl ?_
            refine v_icmp_ne (pc := 656) 807 dL_law_656 rfl (fun hc => ?_) (fun hc => ?_)
            · replace hF := (ifP hF).2 hc
              refine v_iload (pc := 807) (i := 11) dL_law_807 rfl ?_
              refine v_bipush (pc := 809) (v := (8 : Int32)) dL_law_809 rfl ?_
              refine v_icmp_ne (pc := 811) 899 dL_law_811 rfl (fun hc => ?_) (fun hc => ?_)
              · replace hF := (ifP hF).2 hc
                refine v_aload_n (pc := 899) (i := 2) dL_law_899 rfl rfl ?_
                refine v_iload (pc := 900) (i := 12) dL_law_900 rfl ?_
                refine yp_S (pc := 902) gI (as := [sr c2, si (q1 / (26 : Int32))]) (st := []) (N := mL_set) (k := 397 * m + k + 397) (n := 3018 * m + n + 3018) (k1 := 0) (n1 := 0) dL_law_902 lkL_240 caL_set csL_set rfl (fun Q1 hq => tL_set c2 (q1 / (26 : Int32)) a.2.2 Q1 hq) ⟨by decide, by decide⟩ (Nat.le_of_ble_eq_true rfl) hF (fun x70 hF => ?_)
                show gV G (mLaw nm hh) 60 Q 905 [some (sr (some (gxb G))), some (sr c1), some (sr c2), some (sr c3), some (sr c4), some (sr c5), some (sr c6), some (sr c7), none, some (si a.2.1), none, some (si q2), some (si (q1 / (26 : Int32))), some (si q4), some (si x5), none, none, none] [si x70] (397 * m + k + 397) (3018 * m + n + 3018) a.2.2
                refine v_istore (pc := 905) (i := 15) [some (sr (some (gxb G))), some (sr c1), some (sr c2), some (sr c3), some (sr c4), some (sr c5), some (sr c6), some (sr c7), none, some (si a.2.1), none, some (si q2), some (si (q1 / (26 : Int32))), some (si q4), some (si x5), some (si x70), none, none] dL_law_905 (show 15 < 18 by decide) rfl rfl ?_
                refine v_aload_n (pc := 907) (i := 2) dL_law_907 rfl rfl ?_
                refine v_aload_n (pc := 908) (i := 3) dL_law_908 rfl rfl ?_
                refine v_aload (pc := 909) (i := 5) dL_law_909 rfl ?_
                refine v_aload (pc := 911) (i := 6) dL_law_911 rfl ?_
                refine v_aload_n (pc := 913) (i := 2) dL_law_913 rfl rfl ?_
                refine v_aload_n (pc := 914) (i := 3) dL_law_914 rfl rfl ?_
                refine v_aload (pc := 915) (i := 4) dL_law_915 rfl ?_
                refine v_aload (pc := 917) (i := 5) dL_law_917 rfl ?_
                refine v_aload (pc := 919) (i := 6) dL_law_919 rfl ?_
                refine v_aload (pc := 921) (i := 7) dL_law_921 rfl ?_
                refine yh_S (pc := 923) gI (as := [sr c2, sr c3, sr c4, sr c5, sr c6, sr c7]) (st := [sr c6, sr c5, sr c3, sr c2]) (N := mL_line) (k := 397 * m + k + 396) (n := 3018 * m + n + 3006) (k1 := 1) (n1 := 12) dL_law_923 lkL_198 caL_line csL_line rfl (fun Q1 hq => tL_line c2 c3 c4 c5 c6 c7 a.2.2 Q1 hq) ⟨by decide, by decide⟩ (Nat.le_of_ble_eq_true rfl) hF (fun x71 h72 hF => ?_)
                show gV G (mLaw nm hh) 60 Q 926 [some (sr (some (gxb G))), some (sr c1), some (sr c2), some (sr c3), some (sr c4), some (sr c5), some (sr c6), some (sr c7), none, some (si a.2.1), none, some (si q2), some (si (q1 / (26 : Int32))), some (si q4), some (si x5), some (si x70), none, none] [si x71, sr c6, sr c5, sr c3, sr c2] (397 * m + k + 396) (3018 * m + n + 3006) h72
                refine v_iload (pc := 926) (i := 15) dL_law_926 rfl ?_
                refine yh_S (pc := 928) gU (as := [sr c2, sr c3, sr c5, sr c6, si x71, si x70]) (st := []) (N := mL_presses) (k := 397 * m + k + 396) (n := 3018 * m + n + 3006) (k1 := 0) (n1 := 0) dL_law_928 lkL_242 caL_presses csL_presses rfl (fun Q1 hq => tL_presses c2 c3 c5 c6 x71 x70 h72 Q1 hq) ⟨by decide, by decide⟩ (Nat.le_of_ble_eq_true rfl) hF (fun _ h73 hF => ?_)
                show gV G (mLaw nm hh) 60 Q 931 [some (sr (some (gxb G))), some (sr c1), some (sr c2), some (sr c3), some (sr c4), some (sr c5), some (sr c6), some (sr c7), none, some (si a.2.1), none, some (si q2), some (si (q1 / (26 : Int32))), some (si q4), some (si x5), some (si x70), none, none] [] (397 * m + k + 396) (3018 * m + n + 3006) h73
                refine v_aload_n (pc := 931) (i := 1) dL_law_931 rfl rfl ?_
                refine v_iload (pc := 932) (i := 15) dL_law_932 rfl ?_
                refine yx_V (pc := 934) gI (as := [si x70]) (st := []) (ci := 9) (N := mX10_chord) (k := 397 * m + k + 395) (n := 3018 * m + n + 3000) (k1 := 1) (n1 := 6) dL_law_934 lkL_245 caX10_chord cvX10_chord rfl (by decide) rfl (fun b Q1 hq => tX10_chord b x70 h73 Q1 hq) ⟨by decide, by decide⟩ (Nat.le_of_ble_eq_true rfl) hF (fun x74 h75 hF => ?_)
                show gV G (mLaw nm hh) 60 Q 937 [some (sr (some (gxb G))), some (sr c1), some (sr c2), some (sr c3), some (sr c4), some (sr c5), some (sr c6), some (sr c7), none, some (si a.2.1), none, some (si q2), some (si (q1 / (26 : Int32))), some (si q4), some (si x5), some (si x70), none, none] [si x74] (397 * m + k + 395) (3018 * m + n + 3000) h75
                refine v_aload_n (pc := 937) (i := 2) dL_law_937 rfl rfl ?_
                refine v_iconst (pc := 938) (v := (1 : Int32)) dL_law_938 rfl ?_
                refine s_iald (f := some) (pc := 939) dL_law_939 (okB_bs hF) (fun x76 hF => ?_)
                replace hF := okB_some hF
                refine v_icmp_ne (pc := 940) 947 dL_law_940 rfl (fun hc => ?_) (fun hc => ?_)
                · replace hF := (ifP hF).2 hc
                  refine v_iconst (pc := 947) (v := (0 : Int32)) dL_law_947 rfl ?_
                  refine v_istore (pc := 948) (i := 8) [some (sr (some (gxb G))), some (sr c1), some (sr c2), some (sr c3), some (sr c4), some (sr c5), some (sr c6), some (sr c7), some (si (0 : Int32)), some (si a.2.1), none, some (si q2), some (si (q1 / (26 : Int32))), some (si q4), some (si x5), some (si x70), none, none] dL_law_948 (show 8 < 18 by decide) rfl rfl ?_
                  exact v_room (k' := 397 * m + k + 383) (n' := 3018 * m + n + 2651) (by omega) (by omega) <| v_lle [some (sr (some (gxb G))), some (sr c1), some (sr c2), some (sr c3), some (sr c4), some (sr c5), some (sr c6), some (sr c7), some (si (0 : Int32)), some (si a.2.1), none, some (si q2), some (si (q1 / (26 : Int32))), none, none, none, none, none] ⟨rfl, rfl, rfl, rfl, rfl, rfl, rfl, rfl, rfl, rfl, rfl, rfl, trivial⟩ (hj6 ((0 : Int32), h75) hF)
                replace hF := (ifP hF).1 hc
                refine v_iconst (pc := 943) (v := (1 : Int32)) dL_law_943 rfl ?_
                refine v_goto (pc := 944) 948 dL_law_944 rfl ?_
                refine v_istore (pc := 948) (i := 8) [some (sr (some (gxb G))), some (sr c1), some (sr c2), some (sr c3), some (sr c4), some (sr c5), some (sr c6), some (sr c7), some (si (1 : Int32)), some (si a.2.1), none, some (si q2), some (si (q1 / (26 : Int32))), some (si q4), some (si x5), some (si x70), none, none] dL_law_948 (show 8 < 18 by decide) rfl rfl ?_
                exact v_room (k' := 397 * m + k + 383) (n' := 3018 * m + n + 2651) (by omega) (by omega) <| v_lle [some (sr (some (gxb G))), some (sr c1), some (sr c2), some (sr c3), some (sr c4), some (sr c5), some (sr c6), some (sr c7), some (si (1 : Int32)), some (si a.2.1), none, some (si q2), some (si (q1 / (26 : Int32))), none, none, none, none, none] ⟨rfl, rfl, rfl, rfl, rfl, rfl, rfl, rfl, rfl, rfl, rfl, rfl, trivial⟩ (hj6 ((1 : Int32), h75) hF)
              replace hF := (ifP hF).1 hc
              refine v_iload (pc := 814) (i := 12) dL_law_814 rfl ?_
              refine v_bipush (pc := 816) (v := (10 : Int32)) dL_law_816 rfl ?_
              refine s_idiv (f := some) (pc := 818) dL_law_818 (okB_bs hF) (fun hF => ?_)
              replace hF := okB_some hF
              refine v_iconst (pc := 819) (v := (4 : Int32)) dL_law_819 rfl ?_
              refine s_irem (f := some) (pc := 820) dL_law_820 (okB_bs hF) (fun hF => ?_)
              replace hF := okB_some hF
              refine v_iconst (pc := 821) (v := (1 : Int32)) dL_law_821 rfl ?_
              refine v_isub (pc := 822) dL_law_822 ?_
              refine v_istore (pc := 823) (i := 15) [some (sr (some (gxb G))), some (sr c1), some (sr c2), some (sr c3), some (sr c4), some (sr c5), some (sr c6), some (sr c7), none, some (si a.2.1), none, some (si q2), some (si (q1 / (26 : Int32))), some (si q4), some (si x5), some (si ((((q1 / (26 : Int32)) / (10 : Int32)) - ((q1 / (26 : Int32)) / (10 : Int32)) / (4 : Int32) * (4 : Int32)) - (1 : Int32))), none, none] dL_law_823 (show 15 < 18 by decide) rfl rfl ?_
              refine v_aload_n (pc := 825) (i := 1) dL_law_825 rfl rfl ?_
              refine v_iconst (pc := 826) (v := (5 : Int32)) dL_law_826 rfl ?_
              refine v_iload (pc := 827) (i := 13) dL_law_827 rfl ?_
              refine v_iload (pc := 829) (i := 15) dL_law_829 rfl ?_
              refine v_iconst (pc := 831) (v := (0 : Int32)) dL_law_831 rfl ?_
              refine ye_S (pc := 832) (as := [sr c1, si (5 : Int32), si q4, si ((((q1 / (26 : Int32)) / (10 : Int32)) - ((q1 / (26 : Int32)) / (10 : Int32)) / (4 : Int32) * (4 : Int32)) - (1 : Int32)), si (0 : Int32)]) (st := []) (N := mL_does) (k := 397 * m + k + 387) (n := 3018 * m + n + 2675) (k1 := 10) (n1 := 343) dL_law_832 lkL_194 caL_does rfl (fun Q1 hq => tL_does c1 (5 : Int32) q4 ((((q1 / (26 : Int32)) / (10 : Int32)) - ((q1 / (26 : Int32)) / (10 : Int32)) / (4 : Int32) * (4 : Int32)) - (1 : Int32)) (0 : Int32) a.2.2 Q1 hq) ⟨by decide, by decide⟩ (Nat.le_of_ble_eq_true rfl) hF (fun x77 h78 hF => ?_)
              show gV G (mLaw nm hh) 60 Q 835 [some (sr (some (gxb G))), some (sr c1), some (sr c2), some (sr c3), some (sr c4), some (sr c5), some (sr c6), some (sr c7), none, some (si a.2.1), none, some (si q2), some (si (q1 / (26 : Int32))), some (si q4), some (si x5), some (si ((((q1 / (26 : Int32)) / (10 : Int32)) - ((q1 / (26 : Int32)) / (10 : Int32)) / (4 : Int32) * (4 : Int32)) - (1 : Int32))), none, none] [si x77] (397 * m + k + 387) (3018 * m + n + 2675) h78
              refine v_iload (pc := 835) (i := 14) dL_law_835 rfl ?_
              refine mgW (X := fun q79 => gV G (mLaw nm hh) 60 Q 856 [some (sr (some (gxb G))), some (sr c1), some (sr c2), some (sr c3), some (sr c4), some (sr c5), some (sr c6), some (sr c7), none, some (si a.2.1), none, some (si q2), some (si (q1 / (26 : Int32))), some (si q4), some (si x5), some (si ((((q1 / (26 : Int32)) / (10 : Int32)) - ((q1 / (26 : Int32)) / (10 : Int32)) / (4 : Int32) * (4 : Int32)) - (1 : Int32))), none, none] [si q79, si x77] (397 * m + k + 383) (3018 * m + n + 2651) h78) hF (fun K79 hj79 hF => ?_) (fun q79 hF => ?_)
              · refine v_if_eq (pc := 837) 854 dL_law_837 rfl (fun hc => ?_) (fun hc => ?_)
                · replace hF := (ifP hF).1 hc
                  refine v_bipush (pc := 854) (v := (-11 : Int32)) dL_law_854 rfl ?_
                  exact v_room (k' := 397 * m + k + 383) (n' := 3018 * m + n + 2651) (by omega) (by omega) <| v_lle [some (sr (some (gxb G))), some (sr c1), some (sr c2), some (sr c3), some (sr c4), some (sr c5), some (sr c6), some (sr c7), none, some (si a.2.1), none, some (si q2), some (si (q1 / (26 : Int32))), some (si q4), some (si x5), some (si ((((q1 / (26 : Int32)) / (10 : Int32)) - ((q1 / (26 : Int32)) / (10 : Int32)) / (4 : Int32) * (4 : Int32)) - (1 : Int32))), none, none] ⟨rfl, rfl, rfl, rfl, rfl, rfl, rfl, rfl, rfl, rfl, rfl, rfl, rfl, rfl, trivial⟩ (hj79 (-11 : Int32) hF)
                replace hF := (ifP hF).2 hc
                refine v_aload_n (pc := 840) (i := 3) dL_law_840 rfl rfl ?_
                refine v_bipush (pc := 841) (v := (6 : Int32)) dL_law_841 rfl ?_
                refine v_iload (pc := 843) (i := 13) dL_law_843 rfl ?_
                refine v_imul (pc := 845) dL_law_845 ?_
                refine v_iconst (pc := 846) (v := (4 : Int32)) dL_law_846 rfl ?_
                refine v_iadd (pc := 847) dL_law_847 ?_
                refine s_iald (f := some) (pc := 848) dL_law_848 (okB_bs hF) (fun x80 hF => ?_)
                replace hF := okB_some hF
                refine v_iconst (pc := 849) (v := (1 : Int32)) dL_law_849 rfl ?_
                refine v_isub (pc := 850) dL_law_850 ?_
                refine v_goto (pc := 851) 856 dL_law_851 rfl ?_
                exact v_room (k' := 397 * m + k + 383) (n' := 3018 * m + n + 2651) (by omega) (by omega) <| v_lle [some (sr (some (gxb G))), some (sr c1), some (sr c2), some (sr c3), some (sr c4), some (sr c5), some (sr c6), some (sr c7), none, some (si a.2.1), none, some (si q2), some (si (q1 / (26 : Int32))), some (si q4), some (si x5), some (si ((((q1 / (26 : Int32)) / (10 : Int32)) - ((q1 / (26 : Int32)) / (10 : Int32)) / (4 : Int32) * (4 : Int32)) - (1 : Int32))), none, none] ⟨rfl, rfl, rfl, rfl, rfl, rfl, rfl, rfl, rfl, rfl, rfl, rfl, rfl, rfl, trivial⟩ (hj79 (x80 - (1 : Int32)) hF)
              refine mgW (X := fun q81 => gV G (mLaw nm hh) 60 Q 864 [some (sr (some (gxb G))), some (sr c1), some (sr c2), some (sr c3), some (sr c4), some (sr c5), some (sr c6), some (sr c7), none, some (si a.2.1), none, some (si q2), some (si (q1 / (26 : Int32))), some (si q4), some (si x5), some (si ((((q1 / (26 : Int32)) / (10 : Int32)) - ((q1 / (26 : Int32)) / (10 : Int32)) / (4 : Int32) * (4 : Int32)) - (1 : Int32))), none, none] [si q81] (397 * m + k + 383) (3018 * m + n + 2651) h78) hF (fun K81 hj81 hF => ?_) (fun q81 hF => ?_)
              · refine v_icmp_ne (pc := 856) 863 dL_law_856 rfl (fun hc => ?_) (fun hc => ?_)
                · replace hF := (ifP hF).2 hc
                  refine v_iconst (pc := 863) (v := (0 : Int32)) dL_law_863 rfl ?_
                  exact v_lle [some (sr (some (gxb G))), some (sr c1), some (sr c2), some (sr c3), some (sr c4), some (sr c5), some (sr c6), some (sr c7), none, some (si a.2.1), none, some (si q2), some (si (q1 / (26 : Int32))), some (si q4), some (si x5), some (si ((((q1 / (26 : Int32)) / (10 : Int32)) - ((q1 / (26 : Int32)) / (10 : Int32)) / (4 : Int32) * (4 : Int32)) - (1 : Int32))), none, none] ⟨rfl, rfl, rfl, rfl, rfl, rfl, rfl, rfl, rfl, rfl, rfl, rfl, rfl, rfl, trivial⟩ (hj81 (0 : Int32) hF)
                replace hF := (ifP hF).1 hc
                refine v_iconst (pc := 859) (v := (1 : Int32)) dL_law_859 rfl ?_
                refine v_goto (pc := 860) 864 dL_law_860 rfl ?_
                exact v_lle [some (sr (some (gxb G))), some (sr c1), some (sr c2), some (sr c3), some (sr c4), some (sr c5), some (sr c6), some (sr c7), none, some (si a.2.1), none, some (si q2), some (si (q1 / (26 : Int32))), some (si q4), some (si x5), some (si ((((q1 / (26 : Int32)) / (10 : Int32)) - ((q1 / (26 : Int32)) / (10 : Int32)) / (4 : Int32) * (4 : Int32)) - (1 : Int32))), none, none] ⟨rfl, rfl, rfl, rfl, rfl, rfl, rfl, rfl, rfl, rfl, rfl, rfl, rfl, rfl, trivial⟩ (hj81 (1 : Int32) hF)
              refine v_istore (pc := 864) (i := 8) [some (sr (some (gxb G))), some (sr c1), some (sr c2), some (sr c3), some (sr c4), some (sr c5), some (sr c6), some (sr c7), some (si q81), some (si a.2.1), none, some (si q2), some (si (q1 / (26 : Int32))), some (si q4), some (si x5), some (si ((((q1 / (26 : Int32)) / (10 : Int32)) - ((q1 / (26 : Int32)) / (10 : Int32)) / (4 : Int32) * (4 : Int32)) - (1 : Int32))), none, none] dL_law_864 (show 8 < 18 by decide) rfl rfl ?_
              refine v_aload_n (pc := 866) (i := 3) dL_law_866 rfl rfl ?_
              refine v_bipush (pc := 867) (v := (6 : Int32)) dL_law_867 rfl ?_
              refine v_iload (pc := 869) (i := 13) dL_law_869 rfl ?_
              refine v_imul (pc := 871) dL_law_871 ?_
              refine v_iconst (pc := 872) (v := (4 : Int32)) dL_law_872 rfl ?_
              refine v_iadd (pc := 873) dL_law_873 ?_
              refine v_iload (pc := 874) (i := 14) dL_law_874 rfl ?_
              refine v_if_eq (pc := 876) 886 dL_law_876 rfl (fun hc => ?_) (fun hc => ?_)
              · replace hF := (ifP hF).1 hc
                refine v_aload_n (pc := 886) (i := 3) dL_law_886 rfl rfl ?_
                refine v_bipush (pc := 887) (v := (6 : Int32)) dL_law_887 rfl ?_
                refine v_iload (pc := 889) (i := 13) dL_law_889 rfl ?_
                refine v_imul (pc := 891) dL_law_891 ?_
                refine v_iconst (pc := 892) (v := (4 : Int32)) dL_law_892 rfl ?_
                refine v_iadd (pc := 893) dL_law_893 ?_
                refine s_iald (f := some) (pc := 894) dL_law_894 (okB_bs hF) (fun x82 hF => ?_)
                replace hF := okB_some hF
                refine s_iast (f := some) (pc := 895) dL_law_895 (okB_bs hF) (fun h83 hF => ?_)
                replace hF := okB_some hF
                refine v_goto (pc := 896) 950 dL_law_896 rfl ?_
                exact v_lle [some (sr (some (gxb G))), some (sr c1), some (sr c2), some (sr c3), some (sr c4), some (sr c5), some (sr c6), some (sr c7), some (si q81), some (si a.2.1), none, some (si q2), some (si (q1 / (26 : Int32))), none, none, none, none, none] ⟨rfl, rfl, rfl, rfl, rfl, rfl, rfl, rfl, rfl, rfl, rfl, rfl, trivial⟩ (hj6 (q81, h83) hF)
              replace hF := (ifP hF).2 hc
              refine v_iload (pc := 879) (i := 15) dL_law_879 rfl ?_
              refine v_iconst (pc := 881) (v := (1 : Int32)) dL_law_881 rfl ?_
              refine v_iadd (pc := 882) dL_law_882 ?_
              refine v_goto (pc := 883) 895 dL_law_883 rfl ?_
              refine s_iast (f := some) (pc := 895) dL_law_895 (okB_bs hF) (fun h84 hF => ?_)
              replace hF := okB_some hF
              refine v_goto (pc := 896) 950 dL_law_896 rfl ?_
              exact v_lle [some (sr (some (gxb G))), some (sr c1), some (sr c2), some (sr c3), some (sr c4), some (sr c5), some (sr c6), some (sr c7), some (si q81), some (si a.2.1), none, some (si q2), some (si (q1 / (26 : Int32))), none, none, none, none, none] ⟨rfl, rfl, rfl, rfl, rfl, rfl, rfl, rfl, rfl, rfl, rfl, rfl, trivial⟩ (hj6 (q81, h84) hF)
            replace hF := (ifP hF).1 hc
            refine v_iload (pc := 659) (i := 12) dL_law_659 rfl ?_
            refine v_bipush (pc := 661) (v := (10 : Int32)) dL_law_661 rfl ?_
            refine s_idiv (f := some) (pc := 663) dL_law_663 (okB_bs hF) (fun hF => ?_)
            replace hF := okB_some hF
            refine v_iconst (pc := 664) (v := (2 : Int32)) dL_law_664 rfl ?_
            refine s_irem (f := some) (pc := 665) dL_law_665 (okB_bs hF) (fun hF => ?_)
            replace hF := okB_some hF
            refine mgW (X := fun q85 => gV G (mLaw nm hh) 60 Q 674 [some (sr (some (gxb G))), some (sr c1), some (sr c2), some (sr c3), some (sr c4), some (sr c5), some (sr c6), some (sr c7), none, some (si a.2.1), none, some (si q2), some (si (q1 / (26 : Int32))), some (si q4), some (si x5), none, none, none] [si q85] (397 * m + k + 393) (3018 * m + n + 2994) a.2.2) hF (fun K85 hj85 hF => ?_) (fun q85 hF => ?_)
            · refine v_if_ne (pc := 666) 673 dL_law_666 rfl (fun hc => ?_) (fun hc => ?_)
              · replace hF := (ifP hF).2 hc
                refine v_iconst (pc := 673) (v := (0 : Int32)) dL_law_673 rfl ?_
                exact v_room (k' := 397 * m + k + 393) (n' := 3018 * m + n + 2994) (by omega) (by omega) <| v_lle [some (sr (some (gxb G))), some (sr c1), some (sr c2), some (sr c3), some (sr c4), some (sr c5), some (sr c6), some (sr c7), none, some (si a.2.1), none, some (si q2), some (si (q1 / (26 : Int32))), some (si q4), some (si x5), none, none, none] ⟨rfl, rfl, rfl, rfl, rfl, rfl, rfl, rfl, rfl, rfl, rfl, rfl, rfl, trivial⟩ (hj85 (0 : Int32) hF)
              replace hF := (ifP hF).1 hc
              refine v_iconst (pc := 669) (v := (1 : Int32)) dL_law_669 rfl ?_
              refine v_goto (pc := 670) 674 dL_law_670 rfl ?_
              exact v_room (k' := 397 * m + k + 393) (n' := 3018 * m + n + 2994) (by omega) (by omega) <| v_lle [some (sr (some (gxb G))), some (sr c1), some (sr c2), some (sr c3), some (sr c4), some (sr c5), some (sr c6), some (sr c7), none, some (si a.2.1), none, some (si q2), some (si (q1 / (26 : Int32))), some (si q4), some (si x5), none, none, none] ⟨rfl, rfl, rfl, rfl, rfl, rfl, rfl, rfl, rfl, rfl, rfl, rfl, rfl, trivial⟩ (hj85 (1 : Int32) hF)
            refine v_istore (pc := 674) (i := 15) [some (sr (some (gxb G))), some (sr c1), some (sr c2), some (sr c3), some (sr c4), some (sr c5), some (sr c6), some (sr c7), none, some (si a.2.1), none, some (si q2), some (si (q1 / (26 : Int32))), some (si q4), some (si x5), some (si q85), none, none] dL_law_674 (show 15 < 18 by decide) rfl rfl ?_
            refine v_iload (pc := 676) (i := 14) dL_law_676 rfl ?_
            refine mgW (X := fun q86 => gV G (mLaw nm hh) 60 Q 715 [some (sr (some (gxb G))), some (sr c1), some (sr c2), some (sr c3), some (sr c4), some (sr c5), some (sr c6), some (sr c7), none, some (si a.2.1), none, some (si q2), some (si (q1 / (26 : Int32))), some (si q4), none, some (si q85), none, none] [si q86] (397 * m + k + 393) (3018 * m + n + 2994) a.2.2) hF (fun K86 hj86 hF => ?_) (fun q86 hF => ?_)
            · refine v_if_ne (pc := 678) 686 dL_law_678 rfl (fun hc => ?_) (fun hc => ?_)
              · replace hF := (ifP hF).2 hc
                refine v_aload_n (pc := 686) (i := 3) dL_law_686 rfl rfl ?_
                refine v_bipush (pc := 687) (v := (6 : Int32)) dL_law_687 rfl ?_
                refine v_iload (pc := 689) (i := 13) dL_law_689 rfl ?_
                refine v_imul (pc := 691) dL_law_691 ?_
                refine s_iald (f := some) (pc := 692) dL_law_692 (okB_bs hF) (fun x87 hF => ?_)
                replace hF := okB_some hF
                refine v_iconst (pc := 693) (v := (3 : Int32)) dL_law_693 rfl ?_
                refine v_icmp_eq (pc := 694) 702 dL_law_694 rfl (fun hc => ?_) (fun hc => ?_)
                · replace hF := (ifP hF).1 hc
                  refine v_aload_n (pc := 702) (i := 3) dL_law_702 rfl rfl ?_
                  refine v_bipush (pc := 703) (v := (6 : Int32)) dL_law_703 rfl ?_
                  refine v_iload (pc := 705) (i := 13) dL_law_705 rfl ?_
                  refine v_imul (pc := 707) dL_law_707 ?_
                  refine v_iconst (pc := 708) (v := (3 : Int32)) dL_law_708 rfl ?_
                  refine v_iadd (pc := 709) dL_law_709 ?_
                  refine s_iald (f := some) (pc := 710) dL_law_710 (okB_bs hF) (fun x88 hF => ?_)
                  replace hF := okB_some hF
                  refine v_iconst (pc := 711) (v := (4 : Int32)) dL_law_711 rfl ?_
                  refine v_iand (pc := 712) dL_law_712 ?_
                  refine v_iconst (pc := 713) (v := (4 : Int32)) dL_law_713 rfl ?_
                  refine s_idiv (f := some) (pc := 714) dL_law_714 (okB_bs hF) (fun hF => ?_)
                  replace hF := okB_some hF
                  exact v_lle [some (sr (some (gxb G))), some (sr c1), some (sr c2), some (sr c3), some (sr c4), some (sr c5), some (sr c6), some (sr c7), none, some (si a.2.1), none, some (si q2), some (si (q1 / (26 : Int32))), some (si q4), none, some (si q85), none, none] ⟨rfl, rfl, rfl, rfl, rfl, rfl, rfl, rfl, rfl, rfl, rfl, rfl, rfl, trivial⟩ (hj86 ((x88 &&& (4 : Int32)) / (4 : Int32)) hF)
                replace hF := (ifP hF).2 hc
                refine v_bipush (pc := 697) (v := (-13 : Int32)) dL_law_697 rfl ?_
                refine v_goto (pc := 699) 715 dL_law_699 rfl ?_
                exact v_lle [some (sr (some (gxb G))), some (sr c1), some (sr c2), some (sr c3), some (sr c4), some (sr c5), some (sr c6), some (sr c7), none, some (si a.2.1), none, some (si q2), some (si (q1 / (26 : Int32))), some (si q4), none, some (si q85), none, none] ⟨rfl, rfl, rfl, rfl, rfl, rfl, rfl, rfl, rfl, rfl, rfl, rfl, rfl, trivial⟩ (hj86 (-13 : Int32) hF)
              replace hF := (ifP hF).1 hc
              refine v_bipush (pc := 681) (v := (-11 : Int32)) dL_law_681 rfl ?_
              refine v_goto (pc := 683) 715 dL_law_683 rfl ?_
              exact v_lle [some (sr (some (gxb G))), some (sr c1), some (sr c2), some (sr c3), some (sr c4), some (sr c5), some (sr c6), some (sr c7), none, some (si a.2.1), none, some (si q2), some (si (q1 / (26 : Int32))), some (si q4), none, some (si q85), none, none] ⟨rfl, rfl, rfl, rfl, rfl, rfl, rfl, rfl, rfl, rfl, rfl, rfl, rfl, trivial⟩ (hj86 (-11 : Int32) hF)
            refine v_istore (pc := 715) (i := 16) [some (sr (some (gxb G))), some (sr c1), some (sr c2), some (sr c3), some (sr c4), some (sr c5), some (sr c6), some (sr c7), none, some (si a.2.1), none, some (si q2), some (si (q1 / (26 : Int32))), some (si q4), none, some (si q85), some (si q86), none] dL_law_715 (show 16 < 18 by decide) rfl rfl ?_
            refine v_aload_n (pc := 717) (i := 3) dL_law_717 rfl rfl ?_
            refine v_bipush (pc := 718) (v := (6 : Int32)) dL_law_718 rfl ?_
            refine v_iload (pc := 720) (i := 13) dL_law_720 rfl ?_
            refine v_imul (pc := 722) dL_law_722 ?_
            refine v_iconst (pc := 723) (v := (3 : Int32)) dL_law_723 rfl ?_
            refine v_iadd (pc := 724) dL_law_724 ?_
            refine v_iload (pc := 725) (i := 16) dL_law_725 rfl ?_
            refine mgW (X := fun q89 => gV G (mLaw nm hh) 60 Q 773 [some (sr (some (gxb G))), some (sr c1), some (sr c2), some (sr c3), some (sr c4), some (sr c5), some (sr c6), some (sr c7), none, some (si a.2.1), none, some (si q2), some (si (q1 / (26 : Int32))), some (si q4), none, some (si q85), some (si q86), none] [si q89, si (((6 : Int32) * q4) + (3 : Int32)), sr c3] (397 * m + k + 393) (3018 * m + n + 2994) a.2.2) hF (fun K89 hj89 hF => ?_) (fun q89 hF => ?_)
            · refine v_if_ge (pc := 727) 742 dL_law_727 rfl (fun hc => ?_) (fun hc => ?_)
              · replace hF := (ifP hF).1 hc
                refine v_iload (pc := 742) (i := 15) dL_law_742 rfl ?_
                refine v_if_eq (pc := 744) 761 dL_law_744 rfl (fun hc => ?_) (fun hc => ?_)
                · replace hF := (ifP hF).1 hc
                  refine v_aload_n (pc := 761) (i := 3) dL_law_761 rfl rfl ?_
                  refine v_bipush (pc := 762) (v := (6 : Int32)) dL_law_762 rfl ?_
                  refine v_iload (pc := 764) (i := 13) dL_law_764 rfl ?_
                  refine v_imul (pc := 766) dL_law_766 ?_
                  refine v_iconst (pc := 767) (v := (3 : Int32)) dL_law_767 rfl ?_
                  refine v_iadd (pc := 768) dL_law_768 ?_
                  refine s_iald (f := some) (pc := 769) dL_law_769 (okB_bs hF) (fun x90 hF => ?_)
                  replace hF := okB_some hF
                  refine v_bipush (pc := 770) (v := (-5 : Int32)) dL_law_770 rfl ?_
                  refine v_iand (pc := 772) dL_law_772 ?_
                  exact v_lle [some (sr (some (gxb G))), some (sr c1), some (sr c2), some (sr c3), some (sr c4), some (sr c5), some (sr c6), some (sr c7), none, some (si a.2.1), none, some (si q2), some (si (q1 / (26 : Int32))), some (si q4), none, some (si q85), some (si q86), none] ⟨rfl, rfl, rfl, rfl, rfl, rfl, rfl, rfl, rfl, rfl, rfl, rfl, rfl, rfl, trivial⟩ (hj89 (x90 &&& (-5 : Int32)) hF)
                replace hF := (ifP hF).2 hc
                refine v_aload_n (pc := 747) (i := 3) dL_law_747 rfl rfl ?_
                refine v_bipush (pc := 748) (v := (6 : Int32)) dL_law_748 rfl ?_
                refine v_iload (pc := 750) (i := 13) dL_law_750 rfl ?_
                refine v_imul (pc := 752) dL_law_752 ?_
                refine v_iconst (pc := 753) (v := (3 : Int32)) dL_law_753 rfl ?_
                refine v_iadd (pc := 754) dL_law_754 ?_
                refine s_iald (f := some) (pc := 755) dL_law_755 (okB_bs hF) (fun x91 hF => ?_)
                replace hF := okB_some hF
                refine v_iconst (pc := 756) (v := (4 : Int32)) dL_law_756 rfl ?_
                refine v_ior (pc := 757) dL_law_757 ?_
                refine v_goto (pc := 758) 773 dL_law_758 rfl ?_
                exact v_lle [some (sr (some (gxb G))), some (sr c1), some (sr c2), some (sr c3), some (sr c4), some (sr c5), some (sr c6), some (sr c7), none, some (si a.2.1), none, some (si q2), some (si (q1 / (26 : Int32))), some (si q4), none, some (si q85), some (si q86), none] ⟨rfl, rfl, rfl, rfl, rfl, rfl, rfl, rfl, rfl, rfl, rfl, rfl, rfl, rfl, trivial⟩ (hj89 (x91 ||| (4 : Int32)) hF)
              replace hF := (ifP hF).2 hc
              refine v_aload_n (pc := 730) (i := 3) dL_law_730 rfl rfl ?_
              refine v_bipush (pc := 731) (v := (6 : Int32)) dL_law_731 rfl ?_
              refine v_iload (pc := 733) (i := 13) dL_law_733 rfl ?_
              refine v_imul (pc := 735) dL_law_735 ?_
              refine v_iconst (pc := 736) (v := (3 : Int32)) dL_law_736 rfl ?_
              refine v_iadd (pc := 737) dL_law_737 ?_
              refine s_iald (f := some) (pc := 738) dL_law_738 (okB_bs hF) (fun x92 hF => ?_)
              replace hF := okB_some hF
              refine v_goto (pc := 739) 773 dL_law_739 rfl ?_
              exact v_lle [some (sr (some (gxb G))), some (sr c1), some (sr c2), some (sr c3), some (sr c4), some (sr c5), some (sr c6), some (sr c7), none, some (si a.2.1), none, some (si q2), some (si (q1 / (26 : Int32))), some (si q4), none, some (si q85), some (si q86), none] ⟨rfl, rfl, rfl, rfl, rfl, rfl, rfl, rfl, rfl, rfl, rfl, rfl, rfl, rfl, trivial⟩ (hj89 x92 hF)
            refine s_iast (f := some) (pc := 773) dL_law_773 (okB_bs hF) (fun h93 hF => ?_)
            replace hF := okB_some hF
            refine v_aload_n (pc := 774) (i := 1) dL_law_774 rfl rfl ?_
            refine v_iconst (pc := 775) (v := (4 : Int32)) dL_law_775 rfl ?_
            refine v_iload (pc := 776) (i := 13) dL_law_776 rfl ?_
            refine v_iload (pc := 778) (i := 15) dL_law_778 rfl ?_
            refine mgW (X := fun q94 => gV G (mLaw nm hh) 60 Q 788 [some (sr (some (gxb G))), some (sr c1), some (sr c2), some (sr c3), some (sr c4), some (sr c5), some (sr c6), some (sr c7), none, some (si a.2.1), none, some (si q2), some (si (q1 / (26 : Int32))), none, none, none, some (si q86), none] [si q94, si q4, si (4 : Int32), sr c1] (397 * m + k + 393) (3018 * m + n + 2994) h93) hF (fun K94 hj94 hF => ?_) (fun q94 hF => ?_)
            · refine v_if_eq (pc := 780) 787 dL_law_780 rfl (fun hc => ?_) (fun hc => ?_)
              · replace hF := (ifP hF).1 hc
                refine v_iconst (pc := 787) (v := (0 : Int32)) dL_law_787 rfl ?_
                exact v_lle [some (sr (some (gxb G))), some (sr c1), some (sr c2), some (sr c3), some (sr c4), some (sr c5), some (sr c6), some (sr c7), none, some (si a.2.1), none, some (si q2), some (si (q1 / (26 : Int32))), none, none, none, some (si q86), none] ⟨rfl, rfl, rfl, rfl, rfl, rfl, rfl, rfl, rfl, rfl, rfl, rfl, trivial⟩ (hj94 (0 : Int32) hF)
              replace hF := (ifP hF).2 hc
              refine v_iconst (pc := 783) (v := (1 : Int32)) dL_law_783 rfl ?_
              refine v_goto (pc := 784) 788 dL_law_784 rfl ?_
              exact v_lle [some (sr (some (gxb G))), some (sr c1), some (sr c2), some (sr c3), some (sr c4), some (sr c5), some (sr c6), some (sr c7), none, some (si a.2.1), none, some (si q2), some (si (q1 / (26 : Int32))), none, none, none, some (si q86), none] ⟨rfl, rfl, rfl, rfl, rfl, rfl, rfl, rfl, rfl, rfl, rfl, rfl, trivial⟩ (hj94 (1 : Int32) hF)
            refine v_iconst (pc := 788) (v := (0 : Int32)) dL_law_788 rfl ?_
            refine ye_S (pc := 789) (as := [sr c1, si (4 : Int32), si q4, si q94, si (0 : Int32)]) (st := []) (N := mL_does) (k := 397 * m + k + 383) (n := 3018 * m + n + 2651) (k1 := 10) (n1 := 343) dL_law_789 lkL_194 caL_does rfl (fun Q1 hq => tL_does c1 (4 : Int32) q4 q94 (0 : Int32) h93 Q1 hq) ⟨by decide, by decide⟩ (Nat.le_of_ble_eq_true rfl) hF (fun x95 h96 hF => ?_)
            show gV G (mLaw nm hh) 60 Q 792 [some (sr (some (gxb G))), some (sr c1), some (sr c2), some (sr c3), some (sr c4), some (sr c5), some (sr c6), some (sr c7), none, some (si a.2.1), none, some (si q2), some (si (q1 / (26 : Int32))), none, none, none, some (si q86), none] [si x95] (397 * m + k + 383) (3018 * m + n + 2651) h96
            refine v_iload (pc := 792) (i := 16) dL_law_792 rfl ?_
            refine v_icmp_ne (pc := 794) 801 dL_law_794 rfl (fun hc => ?_) (fun hc => ?_)
            · replace hF := (ifP hF).2 hc
              refine v_iconst (pc := 801) (v := (0 : Int32)) dL_law_801 rfl ?_
              refine v_istore (pc := 802) (i := 8) [some (sr (some (gxb G))), some (sr c1), some (sr c2), some (sr c3), some (sr c4), some (sr c5), some (sr c6), some (sr c7), some (si (0 : Int32)), some (si a.2.1), none, some (si q2), some (si (q1 / (26 : Int32))), none, none, none, some (si q86), none] dL_law_802 (show 8 < 18 by decide) rfl rfl ?_
              refine v_goto (pc := 804) 950 dL_law_804 rfl ?_
              exact v_lle [some (sr (some (gxb G))), some (sr c1), some (sr c2), some (sr c3), some (sr c4), some (sr c5), some (sr c6), some (sr c7), some (si (0 : Int32)), some (si a.2.1), none, some (si q2), some (si (q1 / (26 : Int32))), none, none, none, none, none] ⟨rfl, rfl, rfl, rfl, rfl, rfl, rfl, rfl, rfl, rfl, rfl, rfl, trivial⟩ (hj6 ((0 : Int32), h96) hF)
            replace hF := (ifP hF).1 hc
            refine v_iconst (pc := 797) (v := (1 : Int32)) dL_law_797 rfl ?_
            refine v_goto (pc := 798) 802 dL_law_798 rfl ?_
            refine v_istore (pc := 802) (i := 8) [some (sr (some (gxb G))), some (sr c1), some (sr c2), some (sr c3), some (sr c4), some (sr c5), some (sr c6), some (sr c7), some (si (1 : Int32)), some (si a.2.1), none, some (si q2), some (si (q1 / (26 : Int32))), none, none, none, some (si q86), none] dL_law_802 (show 8 < 18 by decide) rfl rfl ?_
            refine v_goto (pc := 804) 950 dL_law_804 rfl ?_
            exact v_lle [some (sr (some (gxb G))), some (sr c1), some (sr c2), some (sr c3), some (sr c4), some (sr c5), some (sr c6), some (sr c7), some (si (1 : Int32)), some (si a.2.1), none, some (si q2), some (si (q1 / (26 : Int32))), none, none, none, none, none] ⟨rfl, rfl, rfl, rfl, rfl, rfl, rfl, rfl, rfl, rfl, rfl, rfl, trivial⟩ (hj6 ((1 : Int32), h96) hF)
          replace hF := (ifP hF).1 hc
          refine v_iload (pc := 579) (i := 14) dL_law_579 rfl ?_
          refine mgW (X := fun q97 => gV G (mLaw nm hh) 60 Q 600 [some (sr (some (gxb G))), some (sr c1), some (sr c2), some (sr c3), some (sr c4), some (sr c5), some (sr c6), some (sr c7), none, some (si a.2.1), none, some (si q2), some (si (q1 / (26 : Int32))), some (si q4), none, none, none, none] [si q97] (397 * m + k + 397) (3018 * m + n + 3018) a.2.2) hF (fun K97 hj97 hF => ?_) (fun q97 hF => ?_)
          · refine v_if_ne (pc := 581) 589 dL_law_581 rfl (fun hc => ?_) (fun hc => ?_)
            · replace hF := (ifP hF).2 hc
              refine v_iload (pc := 589) (i := 13) dL_law_589 rfl ?_
              refine v_if_ne (pc := 591) 599 dL_law_591 rfl (fun hc => ?_) (fun hc => ?_)
              · replace hF := (ifP hF).2 hc
                refine v_iconst (pc := 599) (v := (0 : Int32)) dL_law_599 rfl ?_
                exact v_lle [some (sr (some (gxb G))), some (sr c1), some (sr c2), some (sr c3), some (sr c4), some (sr c5), some (sr c6), some (sr c7), none, some (si a.2.1), none, some (si q2), some (si (q1 / (26 : Int32))), some (si q4), none, none, none, none] ⟨rfl, rfl, rfl, rfl, rfl, rfl, rfl, rfl, rfl, rfl, rfl, rfl, trivial⟩ (hj97 (0 : Int32) hF)
              replace hF := (ifP hF).1 hc
              refine v_bipush (pc := 594) (v := (-13 : Int32)) dL_law_594 rfl ?_
              refine v_goto (pc := 596) 600 dL_law_596 rfl ?_
              exact v_lle [some (sr (some (gxb G))), some (sr c1), some (sr c2), some (sr c3), some (sr c4), some (sr c5), some (sr c6), some (sr c7), none, some (si a.2.1), none, some (si q2), some (si (q1 / (26 : Int32))), some (si q4), none, none, none, none] ⟨rfl, rfl, rfl, rfl, rfl, rfl, rfl, rfl, rfl, rfl, rfl, rfl, trivial⟩ (hj97 (-13 : Int32) hF)
            replace hF := (ifP hF).1 hc
            refine v_bipush (pc := 584) (v := (-11 : Int32)) dL_law_584 rfl ?_
            refine v_goto (pc := 586) 600 dL_law_586 rfl ?_
            exact v_lle [some (sr (some (gxb G))), some (sr c1), some (sr c2), some (sr c3), some (sr c4), some (sr c5), some (sr c6), some (sr c7), none, some (si a.2.1), none, some (si q2), some (si (q1 / (26 : Int32))), some (si q4), none, none, none, none] ⟨rfl, rfl, rfl, rfl, rfl, rfl, rfl, rfl, rfl, rfl, rfl, rfl, trivial⟩ (hj97 (-11 : Int32) hF)
          refine v_istore (pc := 600) (i := 15) [some (sr (some (gxb G))), some (sr c1), some (sr c2), some (sr c3), some (sr c4), some (sr c5), some (sr c6), some (sr c7), none, some (si a.2.1), none, some (si q2), some (si (q1 / (26 : Int32))), some (si q4), none, some (si q97), none, none] dL_law_600 (show 15 < 18 by decide) rfl rfl ?_
          refine v_iload (pc := 602) (i := 15) dL_law_602 rfl ?_
          refine mgW (X := fun q98 => gV G (mLaw nm hh) 60 Q 628 [some (sr (some (gxb G))), some (sr c1), some (sr c2), some (sr c3), some (sr c4), some (sr c5), some (sr c6), some (sr c7), none, some (si a.2.1), none, some (si q2), some (si (q1 / (26 : Int32))), some (si q4), none, some (si q98.1), none, none] [] (397 * m + k + 393) (3018 * m + n + 2994) q98.2) hF (fun K98 hj98 hF => ?_) (fun q98 hF => ?_)
          · refine v_if_ne (pc := 604) 628 dL_law_604 rfl (fun hc => ?_) (fun hc => ?_)
            · replace hF := (ifP hF).2 hc
              exact v_room (k' := 397 * m + k + 393) (n' := 3018 * m + n + 2994) (by omega) (by omega) <| v_lle [some (sr (some (gxb G))), some (sr c1), some (sr c2), some (sr c3), some (sr c4), some (sr c5), some (sr c6), some (sr c7), none, some (si a.2.1), none, some (si q2), some (si (q1 / (26 : Int32))), some (si q4), none, some (si q97), none, none] ⟨rfl, rfl, rfl, rfl, rfl, rfl, rfl, rfl, rfl, rfl, rfl, rfl, rfl, trivial⟩ (hj98 (q97, a.2.2) hF)
            replace hF := (ifP hF).1 hc
            refine v_aload (pc := 607) (i := 4) dL_law_607 rfl ?_
            refine v_iload (pc := 609) (i := 13) dL_law_609 rfl ?_
            refine v_aload_n (pc := 611) (i := 1) dL_law_611 rfl rfl ?_
            refine v_iload (pc := 612) (i := 12) dL_law_612 rfl ?_
            refine yw_S (pc := 614) (as := [sr c1, si (q1 / (26 : Int32))]) (st := [si q4, sr c4]) (N := mL_drafts) (k := 397 * m + k + 393) (n := 3018 * m + n + 2994) (k1 := 4) (n1 := 24) gL _ dL_law_614 lkL_222 caL_drafts csL_drafts rfl rfl (tL_drafts c1 (q1 / (26 : Int32)) a.2.2 _ _ (fun x9 h9 hx => ⟨x9, rfl, hx⟩) hF) ⟨by decide, by decide⟩ (Nat.le_of_ble_eq_true rfl) (fun x99 h100 hF => ?_)
            show gV G (mLaw nm hh) 60 Q 617 [some (sr (some (gxb G))), some (sr c1), some (sr c2), some (sr c3), some (sr c4), some (sr c5), some (sr c6), some (sr c7), none, some (si a.2.1), none, some (si q2), some (si (q1 / (26 : Int32))), some (si q4), none, some (si q97), none, none] [sl x99, si q4, sr c4] (397 * m + k + 393) (3018 * m + n + 2994) h100
            refine s_last (f := some) (pc := 617) dL_law_617 (okB_bs hF) (fun h101 hF => ?_)
            replace hF := okB_some hF
            refine v_aload (pc := 618) (i := 4) dL_law_618 rfl ?_
            refine v_iload (pc := 620) (i := 13) dL_law_620 rfl ?_
            refine s_lald (f := some) (pc := 622) dL_law_622 (okB_bs hF) (fun x102 hF => ?_)
            replace hF := okB_some hF
            refine yp_S (pc := 623) gI (as := [sl x102]) (st := []) (N := mL_nameMany) (k := 397 * m + k + 393) (n := 3018 * m + n + 2994) (k1 := 0) (n1 := 0) dL_law_623 lkL_34 caL_nameMany csL_nameMany rfl (fun Q1 hq => tL_nameMany x102 h101 Q1 hq) ⟨by decide, by decide⟩ (Nat.le_of_ble_eq_true rfl) hF (fun x103 hF => ?_)
            show gV G (mLaw nm hh) 60 Q 626 [some (sr (some (gxb G))), some (sr c1), some (sr c2), some (sr c3), some (sr c4), some (sr c5), some (sr c6), some (sr c7), none, some (si a.2.1), none, some (si q2), some (si (q1 / (26 : Int32))), some (si q4), none, some (si q97), none, none] [si x103] (397 * m + k + 393) (3018 * m + n + 2994) h101
            refine v_istore (pc := 626) (i := 15) [some (sr (some (gxb G))), some (sr c1), some (sr c2), some (sr c3), some (sr c4), some (sr c5), some (sr c6), some (sr c7), none, some (si a.2.1), none, some (si q2), some (si (q1 / (26 : Int32))), some (si q4), none, some (si x103), none, none] dL_law_626 (show 15 < 18 by decide) rfl rfl ?_
            exact v_lle [some (sr (some (gxb G))), some (sr c1), some (sr c2), some (sr c3), some (sr c4), some (sr c5), some (sr c6), some (sr c7), none, some (si a.2.1), none, some (si q2), some (si (q1 / (26 : Int32))), some (si q4), none, some (si x103), none, none] ⟨rfl, rfl, rfl, rfl, rfl, rfl, rfl, rfl, rfl, rfl, rfl, rfl, rfl, trivial⟩ (hj98 (x103, h101) hF)
          refine v_aload_n (pc := 628) (i := 1) dL_law_628 rfl rfl ?_
          refine v_iconst (pc := 629) (v := (3 : Int32)) dL_law_629 rfl ?_
          refine v_iload (pc := 630) (i := 13) dL_law_630 rfl ?_
          refine v_iconst (pc := 632) (v := (0 : Int32)) dL_law_632 rfl ?_
          refine v_iconst (pc := 633) (v := (0 : Int32)) dL_law_633 rfl ?_
          refine ye_S (pc := 634) (as := [sr c1, si (3 : Int32), si q4, si (0 : Int32), si (0 : Int32)]) (st := []) (N := mL_does) (k := 397 * m + k + 383) (n := 3018 * m + n + 2651) (k1 := 10) (n1 := 343) dL_law_634 lkL_194 caL_does rfl (fun Q1 hq => tL_does c1 (3 : Int32) q4 (0 : Int32) (0 : Int32) q98.2 Q1 hq) ⟨by decide, by decide⟩ (Nat.le_of_ble_eq_true rfl) hF (fun x104 h105 hF => ?_)
          show gV G (mLaw nm hh) 60 Q 637 [some (sr (some (gxb G))), some (sr c1), some (sr c2), some (sr c3), some (sr c4), some (sr c5), some (sr c6), some (sr c7), none, some (si a.2.1), none, some (si q2), some (si (q1 / (26 : Int32))), some (si q4), none, some (si q98.1), none, none] [si x104] (397 * m + k + 383) (3018 * m + n + 2651) h105
          refine v_iload (pc := 637) (i := 15) dL_law_637 rfl ?_
          refine v_icmp_ne (pc := 639) 646 dL_law_639 rfl (fun hc => ?_) (fun hc => ?_)
          · replace hF := (ifP hF).2 hc
            refine v_iconst (pc := 646) (v := (0 : Int32)) dL_law_646 rfl ?_
            refine v_istore (pc := 647) (i := 8) [some (sr (some (gxb G))), some (sr c1), some (sr c2), some (sr c3), some (sr c4), some (sr c5), some (sr c6), some (sr c7), some (si (0 : Int32)), some (si a.2.1), none, some (si q2), some (si (q1 / (26 : Int32))), some (si q4), none, some (si q98.1), none, none] dL_law_647 (show 8 < 18 by decide) rfl rfl ?_
            refine v_goto (pc := 649) 950 dL_law_649 rfl ?_
            exact v_lle [some (sr (some (gxb G))), some (sr c1), some (sr c2), some (sr c3), some (sr c4), some (sr c5), some (sr c6), some (sr c7), some (si (0 : Int32)), some (si a.2.1), none, some (si q2), some (si (q1 / (26 : Int32))), none, none, none, none, none] ⟨rfl, rfl, rfl, rfl, rfl, rfl, rfl, rfl, rfl, rfl, rfl, rfl, trivial⟩ (hj6 ((0 : Int32), h105) hF)
          replace hF := (ifP hF).1 hc
          refine v_iconst (pc := 642) (v := (1 : Int32)) dL_law_642 rfl ?_
          refine v_goto (pc := 643) 647 dL_law_643 rfl ?_
          refine v_istore (pc := 647) (i := 8) [some (sr (some (gxb G))), some (sr c1), some (sr c2), some (sr c3), some (sr c4), some (sr c5), some (sr c6), some (sr c7), some (si (1 : Int32)), some (si a.2.1), none, some (si q2), some (si (q1 / (26 : Int32))), some (si q4), none, some (si q98.1), none, none] dL_law_647 (show 8 < 18 by decide) rfl rfl ?_
          refine v_goto (pc := 649) 950 dL_law_649 rfl ?_
          exact v_lle [some (sr (some (gxb G))), some (sr c1), some (sr c2), some (sr c3), some (sr c4), some (sr c5), some (sr c6), some (sr c7), some (si (1 : Int32)), some (si a.2.1), none, some (si q2), some (si (q1 / (26 : Int32))), none, none, none, none, none] ⟨rfl, rfl, rfl, rfl, rfl, rfl, rfl, rfl, rfl, rfl, rfl, rfl, trivial⟩ (hj6 ((1 : Int32), h105) hF)
        replace hF := (ifP hF).1 hc
        refine v_iload (pc := 416) (i := 12) dL_law_416 rfl ?_
        refine v_bipush (pc := 418) (v := (10 : Int32)) dL_law_418 rfl ?_
        refine s_idiv (f := some) (pc := 420) dL_law_420 (okB_bs hF) (fun hF => ?_)
        replace hF := okB_some hF
        refine v_iconst (pc := 421) (v := (3 : Int32)) dL_law_421 rfl ?_
        refine s_irem (f := some) (pc := 422) dL_law_422 (okB_bs hF) (fun hF => ?_)
        replace hF := okB_some hF
        refine mgW (X := fun q106 => gV G (mLaw nm hh) 60 Q 431 [some (sr (some (gxb G))), some (sr c1), some (sr c2), some (sr c3), some (sr c4), some (sr c5), some (sr c6), some (sr c7), none, some (si a.2.1), none, some (si q2), some (si (q1 / (26 : Int32))), some (si q4), some (si x5), none, none, none] [si q106] (397 * m + k + 393) (3018 * m + n + 2994) a.2.2) hF (fun K106 hj106 hF => ?_) (fun q106 hF => ?_)
        · refine v_if_le (pc := 423) 430 dL_law_423 rfl (fun hc => ?_) (fun hc => ?_)
          · replace hF := (ifP hF).1 hc
            refine v_iconst (pc := 430) (v := (0 : Int32)) dL_law_430 rfl ?_
            exact v_room (k' := 397 * m + k + 393) (n' := 3018 * m + n + 2994) (by omega) (by omega) <| v_lle [some (sr (some (gxb G))), some (sr c1), some (sr c2), some (sr c3), some (sr c4), some (sr c5), some (sr c6), some (sr c7), none, some (si a.2.1), none, some (si q2), some (si (q1 / (26 : Int32))), some (si q4), some (si x5), none, none, none] ⟨rfl, rfl, rfl, rfl, rfl, rfl, rfl, rfl, rfl, rfl, rfl, rfl, rfl, trivial⟩ (hj106 (0 : Int32) hF)
          replace hF := (ifP hF).2 hc
          refine v_iconst (pc := 426) (v := (1 : Int32)) dL_law_426 rfl ?_
          refine v_goto (pc := 427) 431 dL_law_427 rfl ?_
          exact v_room (k' := 397 * m + k + 393) (n' := 3018 * m + n + 2994) (by omega) (by omega) <| v_lle [some (sr (some (gxb G))), some (sr c1), some (sr c2), some (sr c3), some (sr c4), some (sr c5), some (sr c6), some (sr c7), none, some (si a.2.1), none, some (si q2), some (si (q1 / (26 : Int32))), some (si q4), some (si x5), none, none, none] ⟨rfl, rfl, rfl, rfl, rfl, rfl, rfl, rfl, rfl, rfl, rfl, rfl, rfl, trivial⟩ (hj106 (1 : Int32) hF)
        refine v_istore (pc := 431) (i := 15) [some (sr (some (gxb G))), some (sr c1), some (sr c2), some (sr c3), some (sr c4), some (sr c5), some (sr c6), some (sr c7), none, some (si a.2.1), none, some (si q2), some (si (q1 / (26 : Int32))), some (si q4), some (si x5), some (si q106), none, none] dL_law_431 (show 15 < 18 by decide) rfl rfl ?_
        refine v_iload (pc := 433) (i := 14) dL_law_433 rfl ?_
        refine mgW (X := fun q107 => gV G (mLaw nm hh) 60 Q 467 [some (sr (some (gxb G))), some (sr c1), some (sr c2), some (sr c3), some (sr c4), some (sr c5), some (sr c6), some (sr c7), none, some (si a.2.1), none, some (si q2), some (si (q1 / (26 : Int32))), some (si q4), none, some (si q106), none, none] [si q107] (397 * m + k + 393) (3018 * m + n + 2994) a.2.2) hF (fun K107 hj107 hF => ?_) (fun q107 hF => ?_)
        · refine v_if_ne (pc := 435) 443 dL_law_435 rfl (fun hc => ?_) (fun hc => ?_)
          · replace hF := (ifP hF).2 hc
            refine v_iload (pc := 443) (i := 13) dL_law_443 rfl ?_
            refine v_if_ne (pc := 445) 453 dL_law_445 rfl (fun hc => ?_) (fun hc => ?_)
            · replace hF := (ifP hF).2 hc
              refine v_aload_n (pc := 453) (i := 3) dL_law_453 rfl rfl ?_
              refine v_iload (pc := 454) (i := 13) dL_law_454 rfl ?_
              refine yp_S (pc := 456) gI (as := [sr c3, si q4]) (st := []) (N := mL_isHidden) (k := 397 * m + k + 393) (n := 3018 * m + n + 2994) (k1 := 0) (n1 := 0) dL_law_456 lkL_13 caL_isHidden csL_isHidden rfl (fun Q1 hq => tL_isHidden c3 q4 a.2.2 Q1 hq) ⟨by decide, by decide⟩ (Nat.le_of_ble_eq_true rfl) hF (fun x108 hF => ?_)
              show gV G (mLaw nm hh) 60 Q 459 [some (sr (some (gxb G))), some (sr c1), some (sr c2), some (sr c3), some (sr c4), some (sr c5), some (sr c6), some (sr c7), none, some (si a.2.1), none, some (si q2), some (si (q1 / (26 : Int32))), some (si q4), some (si x5), some (si q106), none, none] [si x108] (397 * m + k + 393) (3018 * m + n + 2994) a.2.2
              refine v_if_eq (pc := 459) 466 dL_law_459 rfl (fun hc => ?_) (fun hc => ?_)
              · replace hF := (ifP hF).1 hc
                refine v_iconst (pc := 466) (v := (0 : Int32)) dL_law_466 rfl ?_
                exact v_lle [some (sr (some (gxb G))), some (sr c1), some (sr c2), some (sr c3), some (sr c4), some (sr c5), some (sr c6), some (sr c7), none, some (si a.2.1), none, some (si q2), some (si (q1 / (26 : Int32))), some (si q4), none, some (si q106), none, none] ⟨rfl, rfl, rfl, rfl, rfl, rfl, rfl, rfl, rfl, rfl, rfl, rfl, rfl, trivial⟩ (hj107 (0 : Int32) hF)
              replace hF := (ifP hF).2 hc
              refine v_iconst (pc := 462) (v := (1 : Int32)) dL_law_462 rfl ?_
              refine v_goto (pc := 463) 467 dL_law_463 rfl ?_
              exact v_lle [some (sr (some (gxb G))), some (sr c1), some (sr c2), some (sr c3), some (sr c4), some (sr c5), some (sr c6), some (sr c7), none, some (si a.2.1), none, some (si q2), some (si (q1 / (26 : Int32))), some (si q4), none, some (si q106), none, none] ⟨rfl, rfl, rfl, rfl, rfl, rfl, rfl, rfl, rfl, rfl, rfl, rfl, rfl, trivial⟩ (hj107 (1 : Int32) hF)
            replace hF := (ifP hF).1 hc
            refine v_bipush (pc := 448) (v := (-13 : Int32)) dL_law_448 rfl ?_
            refine v_goto (pc := 450) 467 dL_law_450 rfl ?_
            exact v_lle [some (sr (some (gxb G))), some (sr c1), some (sr c2), some (sr c3), some (sr c4), some (sr c5), some (sr c6), some (sr c7), none, some (si a.2.1), none, some (si q2), some (si (q1 / (26 : Int32))), some (si q4), none, some (si q106), none, none] ⟨rfl, rfl, rfl, rfl, rfl, rfl, rfl, rfl, rfl, rfl, rfl, rfl, rfl, trivial⟩ (hj107 (-13 : Int32) hF)
          replace hF := (ifP hF).1 hc
          refine v_bipush (pc := 438) (v := (-11 : Int32)) dL_law_438 rfl ?_
          refine v_goto (pc := 440) 467 dL_law_440 rfl ?_
          exact v_lle [some (sr (some (gxb G))), some (sr c1), some (sr c2), some (sr c3), some (sr c4), some (sr c5), some (sr c6), some (sr c7), none, some (si a.2.1), none, some (si q2), some (si (q1 / (26 : Int32))), some (si q4), none, some (si q106), none, none] ⟨rfl, rfl, rfl, rfl, rfl, rfl, rfl, rfl, rfl, rfl, rfl, rfl, rfl, trivial⟩ (hj107 (-11 : Int32) hF)
        refine v_istore (pc := 467) (i := 16) [some (sr (some (gxb G))), some (sr c1), some (sr c2), some (sr c3), some (sr c4), some (sr c5), some (sr c6), some (sr c7), none, some (si a.2.1), none, some (si q2), some (si (q1 / (26 : Int32))), some (si q4), none, some (si q106), some (si q107), none] dL_law_467 (show 16 < 18 by decide) rfl rfl ?_
        refine v_iload (pc := 469) (i := 16) dL_law_469 rfl ?_
        refine mgW (X := fun q109 => gV G (mLaw nm hh) 60 Q 539 [some (sr (some (gxb G))), some (sr c1), some (sr c2), some (sr c3), some (sr c4), some (sr c5), some (sr c6), some (sr c7), none, some (si a.2.1), none, some (si q2), some (si (q1 / (26 : Int32))), some (si q4), none, some (si q106), some (si q107), none] [] (397 * m + k + 393) (3018 * m + n + 2994) q109) hF (fun K109 hj109 hF => ?_) (fun q109 hF => ?_)
        · refine v_if_lt (pc := 471) 539 dL_law_471 rfl (fun hc => ?_) (fun hc => ?_)
          · replace hF := (ifP hF).1 hc
            exact v_lle [some (sr (some (gxb G))), some (sr c1), some (sr c2), some (sr c3), some (sr c4), some (sr c5), some (sr c6), some (sr c7), none, some (si a.2.1), none, some (si q2), some (si (q1 / (26 : Int32))), some (si q4), none, some (si q106), some (si q107), none] ⟨rfl, rfl, rfl, rfl, rfl, rfl, rfl, rfl, rfl, rfl, rfl, rfl, rfl, rfl, trivial⟩ (hj109 a.2.2 hF)
          replace hF := (ifP hF).2 hc
          refine v_aload_n (pc := 474) (i := 3) dL_law_474 rfl rfl ?_
          refine v_bipush (pc := 475) (v := (6 : Int32)) dL_law_475 rfl ?_
          refine v_iload (pc := 477) (i := 13) dL_law_477 rfl ?_
          refine v_imul (pc := 479) dL_law_479 ?_
          refine v_iconst (pc := 480) (v := (3 : Int32)) dL_law_480 rfl ?_
          refine v_iadd (pc := 481) dL_law_481 ?_
          refine v_iload (pc := 482) (i := 15) dL_law_482 rfl ?_
          refine mgW (X := fun q110 => gV G (mLaw nm hh) 60 Q 513 [some (sr (some (gxb G))), some (sr c1), some (sr c2), some (sr c3), some (sr c4), some (sr c5), some (sr c6), some (sr c7), none, some (si a.2.1), none, some (si q2), some (si (q1 / (26 : Int32))), some (si q4), none, some (si q106), some (si q107), none] [si q110, si (((6 : Int32) * q4) + (3 : Int32)), sr c3] (397 * m + k + 393) (3018 * m + n + 2994) a.2.2) hF (fun K110 hj110 hF => ?_) (fun q110 hF => ?_)
          · refine v_if_eq (pc := 484) 501 dL_law_484 rfl (fun hc => ?_) (fun hc => ?_)
            · replace hF := (ifP hF).1 hc
              refine v_aload_n (pc := 501) (i := 3) dL_law_501 rfl rfl ?_
              refine v_bipush (pc := 502) (v := (6 : Int32)) dL_law_502 rfl ?_
              refine v_iload (pc := 504) (i := 13) dL_law_504 rfl ?_
              refine v_imul (pc := 506) dL_law_506 ?_
              refine v_iconst (pc := 507) (v := (3 : Int32)) dL_law_507 rfl ?_
              refine v_iadd (pc := 508) dL_law_508 ?_
              refine s_iald (f := some) (pc := 509) dL_law_509 (okB_bs hF) (fun x111 hF => ?_)
              replace hF := okB_some hF
              refine v_bipush (pc := 510) (v := (-3 : Int32)) dL_law_510 rfl ?_
              refine v_iand (pc := 512) dL_law_512 ?_
              exact v_lle [some (sr (some (gxb G))), some (sr c1), some (sr c2), some (sr c3), some (sr c4), some (sr c5), some (sr c6), some (sr c7), none, some (si a.2.1), none, some (si q2), some (si (q1 / (26 : Int32))), some (si q4), none, some (si q106), some (si q107), none] ⟨rfl, rfl, rfl, rfl, rfl, rfl, rfl, rfl, rfl, rfl, rfl, rfl, rfl, rfl, trivial⟩ (hj110 (x111 &&& (-3 : Int32)) hF)
            replace hF := (ifP hF).2 hc
            refine v_aload_n (pc := 487) (i := 3) dL_law_487 rfl rfl ?_
            refine v_bipush (pc := 488) (v := (6 : Int32)) dL_law_488 rfl ?_
            refine v_iload (pc := 490) (i := 13) dL_law_490 rfl ?_
            refine v_imul (pc := 492) dL_law_492 ?_
            refine v_iconst (pc := 493) (v := (3 : Int32)) dL_law_493 rfl ?_
            refine v_iadd (pc := 494) dL_law_494 ?_
            refine s_iald (f := some) (pc := 495) dL_law_495 (okB_bs hF) (fun x112 hF => ?_)
            replace hF := okB_some hF
            refine v_iconst (pc := 496) (v := (2 : Int32)) dL_law_496 rfl ?_
            refine v_ior (pc := 497) dL_law_497 ?_
            refine v_goto (pc := 498) 513 dL_law_498 rfl ?_
            exact v_lle [some (sr (some (gxb G))), some (sr c1), some (sr c2), some (sr c3), some (sr c4), some (sr c5), some (sr c6), some (sr c7), none, some (si a.2.1), none, some (si q2), some (si (q1 / (26 : Int32))), some (si q4), none, some (si q106), some (si q107), none] ⟨rfl, rfl, rfl, rfl, rfl, rfl, rfl, rfl, rfl, rfl, rfl, rfl, rfl, rfl, trivial⟩ (hj110 (x112 ||| (2 : Int32)) hF)
          refine s_iast (f := some) (pc := 513) dL_law_513 (okB_bs hF) (fun h113 hF => ?_)
          replace hF := okB_some hF
          refine v_aload_n (pc := 514) (i := 2) dL_law_514 rfl rfl ?_
          refine v_aload_n (pc := 515) (i := 3) dL_law_515 rfl rfl ?_
          refine v_aload_n (pc := 516) (i := 3) dL_law_516 rfl rfl ?_
          refine v_bipush (pc := 517) (v := (6 : Int32)) dL_law_517 rfl ?_
          refine v_iload (pc := 519) (i := 13) dL_law_519 rfl ?_
          refine v_imul (pc := 521) dL_law_521 ?_
          refine v_iconst (pc := 522) (v := (1 : Int32)) dL_law_522 rfl ?_
          refine v_iadd (pc := 523) dL_law_523 ?_
          refine s_iald (f := some) (pc := 524) dL_law_524 (okB_bs hF) (fun x114 hF => ?_)
          replace hF := okB_some hF
          refine v_aload_n (pc := 525) (i := 3) dL_law_525 rfl rfl ?_
          refine v_bipush (pc := 526) (v := (6 : Int32)) dL_law_526 rfl ?_
          refine v_iload (pc := 528) (i := 13) dL_law_528 rfl ?_
          refine v_imul (pc := 530) dL_law_530 ?_
          refine v_iconst (pc := 531) (v := (2 : Int32)) dL_law_531 rfl ?_
          refine v_iadd (pc := 532) dL_law_532 ?_
          refine s_iald (f := some) (pc := 533) dL_law_533 (okB_bs hF) (fun x115 hF => ?_)
          replace hF := okB_some hF
          refine v_iconst (pc := 534) (v := (1 : Int32)) dL_law_534 rfl ?_
          refine v_iadd (pc := 535) dL_law_535 ?_
          refine yh_S (pc := 536) gU (as := [sr c2, sr c3, si x114, si (x115 + (1 : Int32))]) (st := []) (N := mL_loses) (k := 397 * m + k + 393) (n := 3018 * m + n + 2994) (k1 := 0) (n1 := 0) dL_law_536 lkL_219 caL_loses csL_loses rfl (fun Q1 hq => tL_loses c2 c3 x114 (x115 + (1 : Int32)) h113 Q1 hq) ⟨by decide, by decide⟩ (Nat.le_of_ble_eq_true rfl) hF (fun _ h116 hF => ?_)
          show gV G (mLaw nm hh) 60 Q 539 [some (sr (some (gxb G))), some (sr c1), some (sr c2), some (sr c3), some (sr c4), some (sr c5), some (sr c6), some (sr c7), none, some (si a.2.1), none, some (si q2), some (si (q1 / (26 : Int32))), some (si q4), none, some (si q106), some (si q107), none] [] (397 * m + k + 393) (3018 * m + n + 2994) h116
          exact v_lle [some (sr (some (gxb G))), some (sr c1), some (sr c2), some (sr c3), some (sr c4), some (sr c5), some (sr c6), some (sr c7), none, some (si a.2.1), none, some (si q2), some (si (q1 / (26 : Int32))), some (si q4), none, some (si q106), some (si q107), none] ⟨rfl, rfl, rfl, rfl, rfl, rfl, rfl, rfl, rfl, rfl, rfl, rfl, rfl, rfl, trivial⟩ (hj109 h116 hF)
        refine v_aload_n (pc := 539) (i := 1) dL_law_539 rfl rfl ?_
        refine v_iconst (pc := 540) (v := (2 : Int32)) dL_law_540 rfl ?_
        refine v_iload (pc := 541) (i := 13) dL_law_541 rfl ?_
        refine v_iload (pc := 543) (i := 15) dL_law_543 rfl ?_
        refine mgW (X := fun q117 => gV G (mLaw nm hh) 60 Q 553 [some (sr (some (gxb G))), some (sr c1), some (sr c2), some (sr c3), some (sr c4), some (sr c5), some (sr c6), some (sr c7), none, some (si a.2.1), none, some (si q2), some (si (q1 / (26 : Int32))), none, none, none, some (si q107), none] [si q117, si q4, si (2 : Int32), sr c1] (397 * m + k + 393) (3018 * m + n + 2994) q109) hF (fun K117 hj117 hF => ?_) (fun q117 hF => ?_)
        · refine v_if_eq (pc := 545) 552 dL_law_545 rfl (fun hc => ?_) (fun hc => ?_)
          · replace hF := (ifP hF).1 hc
            refine v_iconst (pc := 552) (v := (0 : Int32)) dL_law_552 rfl ?_
            exact v_lle [some (sr (some (gxb G))), some (sr c1), some (sr c2), some (sr c3), some (sr c4), some (sr c5), some (sr c6), some (sr c7), none, some (si a.2.1), none, some (si q2), some (si (q1 / (26 : Int32))), none, none, none, some (si q107), none] ⟨rfl, rfl, rfl, rfl, rfl, rfl, rfl, rfl, rfl, rfl, rfl, rfl, trivial⟩ (hj117 (0 : Int32) hF)
          replace hF := (ifP hF).2 hc
          refine v_iconst (pc := 548) (v := (1 : Int32)) dL_law_548 rfl ?_
          refine v_goto (pc := 549) 553 dL_law_549 rfl ?_
          exact v_lle [some (sr (some (gxb G))), some (sr c1), some (sr c2), some (sr c3), some (sr c4), some (sr c5), some (sr c6), some (sr c7), none, some (si a.2.1), none, some (si q2), some (si (q1 / (26 : Int32))), none, none, none, some (si q107), none] ⟨rfl, rfl, rfl, rfl, rfl, rfl, rfl, rfl, rfl, rfl, rfl, rfl, trivial⟩ (hj117 (1 : Int32) hF)
        refine v_iconst (pc := 553) (v := (0 : Int32)) dL_law_553 rfl ?_
        refine ye_S (pc := 554) (as := [sr c1, si (2 : Int32), si q4, si q117, si (0 : Int32)]) (st := []) (N := mL_does) (k := 397 * m + k + 383) (n := 3018 * m + n + 2651) (k1 := 10) (n1 := 343) dL_law_554 lkL_194 caL_does rfl (fun Q1 hq => tL_does c1 (2 : Int32) q4 q117 (0 : Int32) q109 Q1 hq) ⟨by decide, by decide⟩ (Nat.le_of_ble_eq_true rfl) hF (fun x118 h119 hF => ?_)
        show gV G (mLaw nm hh) 60 Q 557 [some (sr (some (gxb G))), some (sr c1), some (sr c2), some (sr c3), some (sr c4), some (sr c5), some (sr c6), some (sr c7), none, some (si a.2.1), none, some (si q2), some (si (q1 / (26 : Int32))), none, none, none, some (si q107), none] [si x118] (397 * m + k + 383) (3018 * m + n + 2651) h119
        refine v_iload (pc := 557) (i := 16) dL_law_557 rfl ?_
        refine v_icmp_ne (pc := 559) 566 dL_law_559 rfl (fun hc => ?_) (fun hc => ?_)
        · replace hF := (ifP hF).2 hc
          refine v_iconst (pc := 566) (v := (0 : Int32)) dL_law_566 rfl ?_
          refine v_istore (pc := 567) (i := 8) [some (sr (some (gxb G))), some (sr c1), some (sr c2), some (sr c3), some (sr c4), some (sr c5), some (sr c6), some (sr c7), some (si (0 : Int32)), some (si a.2.1), none, some (si q2), some (si (q1 / (26 : Int32))), none, none, none, some (si q107), none] dL_law_567 (show 8 < 18 by decide) rfl rfl ?_
          refine v_goto (pc := 569) 950 dL_law_569 rfl ?_
          exact v_lle [some (sr (some (gxb G))), some (sr c1), some (sr c2), some (sr c3), some (sr c4), some (sr c5), some (sr c6), some (sr c7), some (si (0 : Int32)), some (si a.2.1), none, some (si q2), some (si (q1 / (26 : Int32))), none, none, none, none, none] ⟨rfl, rfl, rfl, rfl, rfl, rfl, rfl, rfl, rfl, rfl, rfl, rfl, trivial⟩ (hj6 ((0 : Int32), h119) hF)
        replace hF := (ifP hF).1 hc
        refine v_iconst (pc := 562) (v := (1 : Int32)) dL_law_562 rfl ?_
        refine v_goto (pc := 563) 567 dL_law_563 rfl ?_
        refine v_istore (pc := 567) (i := 8) [some (sr (some (gxb G))), some (sr c1), some (sr c2), some (sr c3), some (sr c4), some (sr c5), some (sr c6), some (sr c7), some (si (1 : Int32)), some (si a.2.1), none, some (si q2), some (si (q1 / (26 : Int32))), none, none, none, some (si q107), none] dL_law_567 (show 8 < 18 by decide) rfl rfl ?_
        refine v_goto (pc := 569) 950 dL_law_569 rfl ?_
        exact v_lle [some (sr (some (gxb G))), some (sr c1), some (sr c2), some (sr c3), some (sr c4), some (sr c5), some (sr c6), some (sr c7), some (si (1 : Int32)), some (si a.2.1), none, some (si q2), some (si (q1 / (26 : Int32))), none, none, none, none, none] ⟨rfl, rfl, rfl, rfl, rfl, rfl, rfl, rfl, rfl, rfl, rfl, rfl, trivial⟩ (hj6 ((1 : Int32), h119) hF)
      replace hF := (ifP hF).2 hc
      refine v_iload (pc := 224) (i := 9) dL_law_224 rfl ?_
      refine mgW (X := fun q120 => gV G (mLaw nm hh) 60 Q 245 [some (sr (some (gxb G))), some (sr c1), some (sr c2), some (sr c3), some (sr c4), some (sr c5), some (sr c6), some (sr c7), none, some (si a.2.1), none, some (si q2), some (si (q1 / (26 : Int32))), none, none, none, none, none] [si q120] (397 * m + k + 397) (3018 * m + n + 3018) a.2.2) hF (fun K120 hj120 hF => ?_) (fun q120 hF => ?_)
      · refine v_if_ne (pc := 226) 233 dL_law_226 rfl (fun hc => ?_) (fun hc => ?_)
        · replace hF := (ifP hF).2 hc
          refine v_iload (pc := 233) (i := 9) dL_law_233 rfl ?_
          refine v_iconst (pc := 235) (v := (3 : Int32)) dL_law_235 rfl ?_
          refine v_icmp_ge (pc := 236) 243 dL_law_236 rfl (fun hc => ?_) (fun hc => ?_)
          · replace hF := (ifP hF).1 hc
            refine v_iload (pc := 243) (i := 13) dL_law_243 rfl ?_
            exact v_lle [some (sr (some (gxb G))), some (sr c1), some (sr c2), some (sr c3), some (sr c4), some (sr c5), some (sr c6), some (sr c7), none, some (si a.2.1), none, some (si q2), some (si (q1 / (26 : Int32))), none, none, none, none, none] ⟨rfl, rfl, rfl, rfl, rfl, rfl, rfl, rfl, rfl, rfl, rfl, trivial⟩ (hj120 q4 hF)
          replace hF := (ifP hF).2 hc
          refine v_iconst (pc := 239) (v := (1 : Int32)) dL_law_239 rfl ?_
          refine v_goto (pc := 240) 245 dL_law_240 rfl ?_
          exact v_lle [some (sr (some (gxb G))), some (sr c1), some (sr c2), some (sr c3), some (sr c4), some (sr c5), some (sr c6), some (sr c7), none, some (si a.2.1), none, some (si q2), some (si (q1 / (26 : Int32))), none, none, none, none, none] ⟨rfl, rfl, rfl, rfl, rfl, rfl, rfl, rfl, rfl, rfl, rfl, trivial⟩ (hj120 (1 : Int32) hF)
        replace hF := (ifP hF).1 hc
        refine v_iconst (pc := 229) (v := (0 : Int32)) dL_law_229 rfl ?_
        refine v_goto (pc := 230) 245 dL_law_230 rfl ?_
        exact v_lle [some (sr (some (gxb G))), some (sr c1), some (sr c2), some (sr c3), some (sr c4), some (sr c5), some (sr c6), some (sr c7), none, some (si a.2.1), none, some (si q2), some (si (q1 / (26 : Int32))), none, none, none, none, none] ⟨rfl, rfl, rfl, rfl, rfl, rfl, rfl, rfl, rfl, rfl, rfl, trivial⟩ (hj120 (0 : Int32) hF)
      refine v_istore (pc := 245) (i := 15) [some (sr (some (gxb G))), some (sr c1), some (sr c2), some (sr c3), some (sr c4), some (sr c5), some (sr c6), some (sr c7), none, some (si a.2.1), none, some (si q2), some (si (q1 / (26 : Int32))), none, none, some (si q120), none, none] dL_law_245 (show 15 < 18 by decide) rfl rfl ?_
      refine v_aload_n (pc := 247) (i := 3) dL_law_247 rfl rfl ?_
      refine v_bipush (pc := 248) (v := (6 : Int32)) dL_law_248 rfl ?_
      refine v_iload (pc := 250) (i := 15) dL_law_250 rfl ?_
      refine v_imul (pc := 252) dL_law_252 ?_
      refine s_iald (f := some) (pc := 253) dL_law_253 (okB_bs hF) (fun x121 hF => ?_)
      replace hF := okB_some hF
      refine v_istore (pc := 254) (i := 16) [some (sr (some (gxb G))), some (sr c1), some (sr c2), some (sr c3), some (sr c4), some (sr c5), some (sr c6), some (sr c7), none, some (si a.2.1), none, some (si q2), some (si (q1 / (26 : Int32))), none, none, some (si q120), some (si x121), none] dL_law_254 (show 16 < 18 by decide) rfl rfl ?_
      refine v_iload (pc := 256) (i := 9) dL_law_256 rfl ?_
      refine mgW (X := fun q122 => gV G (mLaw nm hh) 60 Q 323 [some (sr (some (gxb G))), some (sr c1), some (sr c2), some (sr c3), some (sr c4), some (sr c5), some (sr c6), some (sr c7), none, some (si a.2.1), none, some (si q2), some (si (q1 / (26 : Int32))), none, none, some (si q120), none, none] [si q122] (397 * m + k + 397) (3018 * m + n + 3018) a.2.2) hF (fun K122 hj122 hF => ?_) (fun q122 hF => ?_)
      · refine v_if_ne (pc := 258) 265 dL_law_258 rfl (fun hc => ?_) (fun hc => ?_)
        · replace hF := (ifP hF).2 hc
          refine v_iload (pc := 265) (i := 9) dL_law_265 rfl ?_
          refine v_iconst (pc := 267) (v := (3 : Int32)) dL_law_267 rfl ?_
          refine v_icmp_lt (pc := 268) 284 dL_law_268 rfl (fun hc => ?_) (fun hc => ?_)
          · replace hF := (ifP hF).1 hc
            refine v_bipush (pc := 284) (v := (6 : Int32)) dL_law_284 rfl ?_
            refine v_goto (pc := 286) 323 dL_law_286 rfl ?_
            exact v_lle [some (sr (some (gxb G))), some (sr c1), some (sr c2), some (sr c3), some (sr c4), some (sr c5), some (sr c6), some (sr c7), none, some (si a.2.1), none, some (si q2), some (si (q1 / (26 : Int32))), none, none, some (si q120), none, none] ⟨rfl, rfl, rfl, rfl, rfl, rfl, rfl, rfl, rfl, rfl, rfl, rfl, trivial⟩ (hj122 (6 : Int32) hF)
          replace hF := (ifP hF).2 hc
          refine v_iload (pc := 271) (i := 12) dL_law_271 rfl ?_
          refine v_iconst (pc := 273) (v := (5 : Int32)) dL_law_273 rfl ?_
          refine s_irem (f := some) (pc := 274) dL_law_274 (okB_bs hF) (fun hF => ?_)
          replace hF := okB_some hF
          refine mgW (X := fun q123 => gV G (mLaw nm hh) 60 Q 289 [some (sr (some (gxb G))), some (sr c1), some (sr c2), some (sr c3), some (sr c4), some (sr c5), some (sr c6), some (sr c7), none, some (si a.2.1), none, some (si q2), some (si (q1 / (26 : Int32))), none, none, some (si q120), some (si x121), none] [] (397 * m + k + 397) (3018 * m + n + 3018) a.2.2) hF (fun K123 hj123 hF => ?_) (fun q123 hF => ?_)
          · refine v_if_le (pc := 275) 289 dL_law_275 rfl (fun hc => ?_) (fun hc => ?_)
            · replace hF := (ifP hF).1 hc
              exact v_lle [some (sr (some (gxb G))), some (sr c1), some (sr c2), some (sr c3), some (sr c4), some (sr c5), some (sr c6), some (sr c7), none, some (si a.2.1), none, some (si q2), some (si (q1 / (26 : Int32))), none, none, some (si q120), some (si x121), none] ⟨rfl, rfl, rfl, rfl, rfl, rfl, rfl, rfl, rfl, rfl, rfl, rfl, rfl, trivial⟩ (hj123 () hF)
            replace hF := (ifP hF).2 hc
            refine v_iload (pc := 278) (i := 16) dL_law_278 rfl ?_
            refine v_iconst (pc := 280) (v := (5 : Int32)) dL_law_280 rfl ?_
            refine v_icmp_ne (pc := 281) 289 dL_law_281 rfl (fun hc => ?_) (fun hc => ?_)
            · replace hF := (ifP hF).2 hc
              exact v_lle [some (sr (some (gxb G))), some (sr c1), some (sr c2), some (sr c3), some (sr c4), some (sr c5), some (sr c6), some (sr c7), none, some (si a.2.1), none, some (si q2), some (si (q1 / (26 : Int32))), none, none, some (si q120), some (si x121), none] ⟨rfl, rfl, rfl, rfl, rfl, rfl, rfl, rfl, rfl, rfl, rfl, rfl, rfl, trivial⟩ (hj123 () hF)
            replace hF := (ifP hF).1 hc
            refine v_bipush (pc := 284) (v := (6 : Int32)) dL_law_284 rfl ?_
            refine v_goto (pc := 286) 323 dL_law_286 rfl ?_
            exact v_lle [some (sr (some (gxb G))), some (sr c1), some (sr c2), some (sr c3), some (sr c4), some (sr c5), some (sr c6), some (sr c7), none, some (si a.2.1), none, some (si q2), some (si (q1 / (26 : Int32))), none, none, some (si q120), none, none] ⟨rfl, rfl, rfl, rfl, rfl, rfl, rfl, rfl, rfl, rfl, rfl, rfl, trivial⟩ (hj122 (6 : Int32) hF)
          refine v_iload (pc := 289) (i := 12) dL_law_289 rfl ?_
          refine v_iconst (pc := 291) (v := (5 : Int32)) dL_law_291 rfl ?_
          refine s_irem (f := some) (pc := 292) dL_law_292 (okB_bs hF) (fun hF => ?_)
          replace hF := okB_some hF
          refine v_if_le (pc := 293) 315 dL_law_293 rfl (fun hc => ?_) (fun hc => ?_)
          · replace hF := (ifP hF).1 hc
            refine v_iload (pc := 315) (i := 12) dL_law_315 rfl ?_
            refine v_bipush (pc := 317) (v := (7 : Int32)) dL_law_317 rfl ?_
            refine s_idiv (f := some) (pc := 319) dL_law_319 (okB_bs hF) (fun hF => ?_)
            replace hF := okB_some hF
            refine v_bipush (pc := 320) (v := (7 : Int32)) dL_law_320 rfl ?_
            refine s_irem (f := some) (pc := 322) dL_law_322 (okB_bs hF) (fun hF => ?_)
            replace hF := okB_some hF
            exact v_lle [some (sr (some (gxb G))), some (sr c1), some (sr c2), some (sr c3), some (sr c4), some (sr c5), some (sr c6), some (sr c7), none, some (si a.2.1), none, some (si q2), some (si (q1 / (26 : Int32))), none, none, some (si q120), none, none] ⟨rfl, rfl, rfl, rfl, rfl, rfl, rfl, rfl, rfl, rfl, rfl, rfl, trivial⟩ (hj122 (((q1 / (26 : Int32)) / (7 : Int32)) - ((q1 / (26 : Int32)) / (7 : Int32)) / (7 : Int32) * (7 : Int32)) hF)
          replace hF := (ifP hF).2 hc
          refine v_iload (pc := 296) (i := 16) dL_law_296 rfl ?_
          refine v_bipush (pc := 298) (v := (6 : Int32)) dL_law_298 rfl ?_
          refine v_icmp_ne (pc := 300) 315 dL_law_300 rfl (fun hc => ?_) (fun hc => ?_)
          · replace hF := (ifP hF).2 hc
            refine v_iload (pc := 315) (i := 12) dL_law_315 rfl ?_
            refine v_bipush (pc := 317) (v := (7 : Int32)) dL_law_317 rfl ?_
            refine s_idiv (f := some) (pc := 319) dL_law_319 (okB_bs hF) (fun hF => ?_)
            replace hF := okB_some hF
            refine v_bipush (pc := 320) (v := (7 : Int32)) dL_law_320 rfl ?_
            refine s_irem (f := some) (pc := 322) dL_law_322 (okB_bs hF) (fun hF => ?_)
            replace hF := okB_some hF
            exact v_lle [some (sr (some (gxb G))), some (sr c1), some (sr c2), some (sr c3), some (sr c4), some (sr c5), some (sr c6), some (sr c7), none, some (si a.2.1), none, some (si q2), some (si (q1 / (26 : Int32))), none, none, some (si q120), none, none] ⟨rfl, rfl, rfl, rfl, rfl, rfl, rfl, rfl, rfl, rfl, rfl, rfl, trivial⟩ (hj122 (((q1 / (26 : Int32)) / (7 : Int32)) - ((q1 / (26 : Int32)) / (7 : Int32)) / (7 : Int32) * (7 : Int32)) hF)
          replace hF := (ifP hF).1 hc
          refine v_iconst (pc := 303) (v := (1 : Int32)) dL_law_303 rfl ?_
          refine v_iload (pc := 304) (i := 12) dL_law_304 rfl ?_
          refine v_bipush (pc := 306) (v := (11 : Int32)) dL_law_306 rfl ?_
          refine s_idiv (f := some) (pc := 308) dL_law_308 (okB_bs hF) (fun hF => ?_)
          replace hF := okB_some hF
          refine v_iconst (pc := 309) (v := (4 : Int32)) dL_law_309 rfl ?_
          refine s_irem (f := some) (pc := 310) dL_law_310 (okB_bs hF) (fun hF => ?_)
          replace hF := okB_some hF
          refine v_iadd (pc := 311) dL_law_311 ?_
          refine v_goto (pc := 312) 323 dL_law_312 rfl ?_
          exact v_lle [some (sr (some (gxb G))), some (sr c1), some (sr c2), some (sr c3), some (sr c4), some (sr c5), some (sr c6), some (sr c7), none, some (si a.2.1), none, some (si q2), some (si (q1 / (26 : Int32))), none, none, some (si q120), none, none] ⟨rfl, rfl, rfl, rfl, rfl, rfl, rfl, rfl, rfl, rfl, rfl, rfl, trivial⟩ (hj122 ((1 : Int32) + (((q1 / (26 : Int32)) / (11 : Int32)) - ((q1 / (26 : Int32)) / (11 : Int32)) / (4 : Int32) * (4 : Int32))) hF)
        replace hF := (ifP hF).1 hc
        refine v_iconst (pc := 261) (v := (5 : Int32)) dL_law_261 rfl ?_
        refine v_goto (pc := 262) 323 dL_law_262 rfl ?_
        exact v_lle [some (sr (some (gxb G))), some (sr c1), some (sr c2), some (sr c3), some (sr c4), some (sr c5), some (sr c6), some (sr c7), none, some (si a.2.1), none, some (si q2), some (si (q1 / (26 : Int32))), none, none, some (si q120), none, none] ⟨rfl, rfl, rfl, rfl, rfl, rfl, rfl, rfl, rfl, rfl, rfl, rfl, trivial⟩ (hj122 (5 : Int32) hF)
      refine v_istore (pc := 323) (i := 17) [some (sr (some (gxb G))), some (sr c1), some (sr c2), some (sr c3), some (sr c4), some (sr c5), some (sr c6), some (sr c7), none, some (si a.2.1), none, some (si q2), some (si (q1 / (26 : Int32))), none, none, some (si q120), none, some (si q122)] dL_law_323 (show 17 < 18 by decide) rfl rfl ?_
      refine v_aload_n (pc := 325) (i := 1) dL_law_325 rfl rfl ?_
      refine v_aload_n (pc := 326) (i := 2) dL_law_326 rfl rfl ?_
      refine v_aload_n (pc := 327) (i := 3) dL_law_327 rfl rfl ?_
      refine v_aload (pc := 328) (i := 4) dL_law_328 rfl ?_
      refine v_iload (pc := 330) (i := 15) dL_law_330 rfl ?_
      refine v_iload (pc := 332) (i := 17) dL_law_332 rfl ?_
      refine v_iload (pc := 334) (i := 12) dL_law_334 rfl ?_
      refine yw_S (pc := 336) (as := [sr c1, sr c2, sr c3, sr c4, si q120, si q122, si (q1 / (26 : Int32))]) (st := []) (N := mL_isAdded) (k := 397 * m + k + 383) (n := 3018 * m + n + 2651) (k1 := 14) (n1 := 367) gI _ dL_law_336 lkL_233 caL_isAdded csL_isAdded rfl rfl (tL_isAdded c1 c2 c3 c4 q120 q122 (q1 / (26 : Int32)) a.2.2 _ _ (fun x9 h9 hx => ⟨x9, rfl, hx⟩) hF) ⟨by decide, by decide⟩ (Nat.le_of_ble_eq_true rfl) (fun x124 h125 hF => ?_)
      show gV G (mLaw nm hh) 60 Q 339 [some (sr (some (gxb G))), some (sr c1), some (sr c2), some (sr c3), some (sr c4), some (sr c5), some (sr c6), some (sr c7), none, some (si a.2.1), none, some (si q2), some (si (q1 / (26 : Int32))), none, none, some (si q120), none, some (si q122)] [si x124] (397 * m + k + 383) (3018 * m + n + 2651) h125
      refine v_istore (pc := 339) (i := 8) [some (sr (some (gxb G))), some (sr c1), some (sr c2), some (sr c3), some (sr c4), some (sr c5), some (sr c6), some (sr c7), some (si x124), some (si a.2.1), none, some (si q2), some (si (q1 / (26 : Int32))), none, none, some (si q120), none, some (si q122)] dL_law_339 (show 8 < 18 by decide) rfl rfl ?_
      refine v_goto (pc := 341) 950 dL_law_341 rfl ?_
      exact v_lle [some (sr (some (gxb G))), some (sr c1), some (sr c2), some (sr c3), some (sr c4), some (sr c5), some (sr c6), some (sr c7), some (si x124), some (si a.2.1), none, some (si q2), some (si (q1 / (26 : Int32))), none, none, none, none, none] ⟨rfl, rfl, rfl, rfl, rfl, rfl, rfl, rfl, rfl, rfl, rfl, rfl, trivial⟩ (hj6 (x124, h125) hF)
    refine v_aload_n (pc := 950) (i := 2) dL_law_950 rfl rfl ?_
    refine v_aload_n (pc := 951) (i := 3) dL_law_951 rfl rfl ?_
    refine v_aload (pc := 952) (i := 4) dL_law_952 rfl ?_
    refine v_aload (pc := 954) (i := 5) dL_law_954 rfl ?_
    refine v_aload (pc := 956) (i := 6) dL_law_956 rfl ?_
    refine v_aload (pc := 958) (i := 7) dL_law_958 rfl ?_
    refine yh_S (pc := 960) gI (as := [sr c2, sr c3, sr c4, sr c5, sr c6, sr c7]) (st := []) (N := mL_line) (k := 397 * m + k + 382) (n := 3018 * m + n + 2639) (k1 := 1) (n1 := 12) dL_law_960 lkL_198 caL_line csL_line rfl (fun Q1 hq => tL_line c2 c3 c4 c5 c6 c7 q6.2 Q1 hq) ⟨by decide, by decide⟩ (Nat.le_of_ble_eq_true rfl) hF (fun x126 h127 hF => ?_)
    show gV G (mLaw nm hh) 60 Q 963 [some (sr (some (gxb G))), some (sr c1), some (sr c2), some (sr c3), some (sr c4), some (sr c5), some (sr c6), some (sr c7), some (si q6.1), some (si a.2.1), none, some (si q2), some (si (q1 / (26 : Int32))), none, none, none, none, none] [si x126] (397 * m + k + 382) (3018 * m + n + 2639) h127
    refine v_istore (pc := 963) (i := 15) [some (sr (some (gxb G))), some (sr c1), some (sr c2), some (sr c3), some (sr c4), some (sr c5), some (sr c6), some (sr c7), some (si q6.1), some (si a.2.1), none, some (si q2), some (si (q1 / (26 : Int32))), none, none, some (si x126), none, none] dL_law_963 (show 15 < 18 by decide) rfl rfl ?_
    refine v_aload_n (pc := 965) (i := 2) dL_law_965 rfl rfl ?_
    refine v_iconst (pc := 966) (v := (3 : Int32)) dL_law_966 rfl ?_
    refine v_aload_n (pc := 967) (i := 2) dL_law_967 rfl rfl ?_
    refine v_iconst (pc := 968) (v := (3 : Int32)) dL_law_968 rfl ?_
    refine s_iald (f := some) (pc := 969) dL_law_969 (okB_bs hF) (fun x128 hF => ?_)
    replace hF := okB_some hF
    refine mgW (X := fun q129 => gV G (mLaw nm hh) 60 Q 1006 [some (sr (some (gxb G))), some (sr c1), some (sr c2), some (sr c3), some (sr c4), some (sr c5), some (sr c6), some (sr c7), some (si q6.1), some (si a.2.1), none, some (si q2), some (si (q1 / (26 : Int32))), none, none, none, none, none] [si q129, si (3 : Int32), sr c2] (397 * m + k + 382) (3018 * m + n + 2639) h127) hF (fun K129 hj129 hF => ?_) (fun q129 hF => ?_)
    · refine v_if_le (pc := 970) 1003 dL_law_970 rfl (fun hc => ?_) (fun hc => ?_)
      · replace hF := (ifP hF).1 hc
        refine v_aload_n (pc := 1003) (i := 2) dL_law_1003 rfl rfl ?_
        refine v_iconst (pc := 1004) (v := (3 : Int32)) dL_law_1004 rfl ?_
        refine s_iald (f := some) (pc := 1005) dL_law_1005 (okB_bs hF) (fun x130 hF => ?_)
        replace hF := okB_some hF
        exact v_lle [some (sr (some (gxb G))), some (sr c1), some (sr c2), some (sr c3), some (sr c4), some (sr c5), some (sr c6), some (sr c7), some (si q6.1), some (si a.2.1), none, some (si q2), some (si (q1 / (26 : Int32))), none, none, none, none, none] ⟨rfl, rfl, rfl, rfl, rfl, rfl, rfl, rfl, rfl, rfl, rfl, rfl, trivial⟩ (hj129 x130 hF)
      replace hF := (ifP hF).2 hc
      refine v_aload_n (pc := 973) (i := 2) dL_law_973 rfl rfl ?_
      refine v_iconst (pc := 974) (v := (3 : Int32)) dL_law_974 rfl ?_
      refine s_iald (f := some) (pc := 975) dL_law_975 (okB_bs hF) (fun x131 hF => ?_)
      replace hF := okB_some hF
      refine v_iload (pc := 976) (i := 15) dL_law_976 rfl ?_
      refine v_icmp_lt (pc := 978) 1003 dL_law_978 rfl (fun hc => ?_) (fun hc => ?_)
      · replace hF := (ifP hF).1 hc
        refine v_aload_n (pc := 1003) (i := 2) dL_law_1003 rfl rfl ?_
        refine v_iconst (pc := 1004) (v := (3 : Int32)) dL_law_1004 rfl ?_
        refine s_iald (f := some) (pc := 1005) dL_law_1005 (okB_bs hF) (fun x132 hF => ?_)
        replace hF := okB_some hF
        exact v_lle [some (sr (some (gxb G))), some (sr c1), some (sr c2), some (sr c3), some (sr c4), some (sr c5), some (sr c6), some (sr c7), some (si q6.1), some (si a.2.1), none, some (si q2), some (si (q1 / (26 : Int32))), none, none, none, none, none] ⟨rfl, rfl, rfl, rfl, rfl, rfl, rfl, rfl, rfl, rfl, rfl, rfl, trivial⟩ (hj129 x132 hF)
      replace hF := (ifP hF).2 hc
      refine v_iload (pc := 981) (i := 15) dL_law_981 rfl ?_
      refine v_if_ne (pc := 983) 990 dL_law_983 rfl (fun hc => ?_) (fun hc => ?_)
      · replace hF := (ifP hF).2 hc
        refine v_iload (pc := 990) (i := 15) dL_law_990 rfl ?_
        refine v_iconst (pc := 992) (v := (1 : Int32)) dL_law_992 rfl ?_
        refine v_isub (pc := 993) dL_law_993 ?_
        refine v_bipush (pc := 994) (v := (10 : Int32)) dL_law_994 rfl ?_
        refine s_idiv (f := some) (pc := 996) dL_law_996 (okB_bs hF) (fun hF => ?_)
        replace hF := okB_some hF
        refine v_bipush (pc := 997) (v := (10 : Int32)) dL_law_997 rfl ?_
        refine v_imul (pc := 999) dL_law_999 ?_
        refine v_goto (pc := 1000) 1006 dL_law_1000 rfl ?_
        exact v_lle [some (sr (some (gxb G))), some (sr c1), some (sr c2), some (sr c3), some (sr c4), some (sr c5), some (sr c6), some (sr c7), some (si q6.1), some (si a.2.1), none, some (si q2), some (si (q1 / (26 : Int32))), none, none, none, none, none] ⟨rfl, rfl, rfl, rfl, rfl, rfl, rfl, rfl, rfl, rfl, rfl, rfl, trivial⟩ (hj129 (((x126 - (1 : Int32)) / (10 : Int32)) * (10 : Int32)) hF)
      replace hF := (ifP hF).1 hc
      refine v_iconst (pc := 986) (v := (0 : Int32)) dL_law_986 rfl ?_
      refine v_goto (pc := 987) 1006 dL_law_987 rfl ?_
      exact v_lle [some (sr (some (gxb G))), some (sr c1), some (sr c2), some (sr c3), some (sr c4), some (sr c5), some (sr c6), some (sr c7), some (si q6.1), some (si a.2.1), none, some (si q2), some (si (q1 / (26 : Int32))), none, none, none, none, none] ⟨rfl, rfl, rfl, rfl, rfl, rfl, rfl, rfl, rfl, rfl, rfl, rfl, trivial⟩ (hj129 (0 : Int32) hF)
    refine s_iast (f := some) (pc := 1006) dL_law_1006 (okB_bs hF) (fun h133 hF => ?_)
    replace hF := okB_some hF
    refine v_iload (pc := 1007) (i := 8) dL_law_1007 rfl ?_
    refine mgW (X := fun q134 => gV G (mLaw nm hh) 60 Q 1063 [some (sr (some (gxb G))), some (sr c1), some (sr c2), some (sr c3), some (sr c4), some (sr c5), some (sr c6), some (sr c7), none, some (si a.2.1), none, none, some (si (q1 / (26 : Int32))), none, none, none, none, none] [si q134.1] (397 * m + k + 378) (3018 * m + n + 2615) q134.2) hF (fun K134 hj134 hF => ?_) (fun q134 hF => ?_)
    · refine v_if_eq (pc := 1009) 1062 dL_law_1009 rfl (fun hc => ?_) (fun hc => ?_)
      · replace hF := (ifP hF).1 hc
        refine v_iconst (pc := 1062) (v := (0 : Int32)) dL_law_1062 rfl ?_
        exact v_room (k' := 397 * m + k + 378) (n' := 3018 * m + n + 2615) (by omega) (by omega) <| v_lle [some (sr (some (gxb G))), some (sr c1), some (sr c2), some (sr c3), some (sr c4), some (sr c5), some (sr c6), some (sr c7), none, some (si a.2.1), none, none, some (si (q1 / (26 : Int32))), none, none, none, none, none] ⟨rfl, rfl, rfl, rfl, rfl, rfl, rfl, rfl, rfl, rfl, trivial⟩ (hj134 ((0 : Int32), h133) hF)
      replace hF := (ifP hF).2 hc
      refine v_iload (pc := 1012) (i := 11) dL_law_1012 rfl ?_
      refine v_iconst (pc := 1014) (v := (4 : Int32)) dL_law_1014 rfl ?_
      refine mgW (X := fun q135 => gV G (mLaw nm hh) 60 Q 1024 [some (sr (some (gxb G))), some (sr c1), some (sr c2), some (sr c3), some (sr c4), some (sr c5), some (sr c6), some (sr c7), none, some (si a.2.1), none, none, some (si (q1 / (26 : Int32))), none, none, none, none, none] [] (397 * m + k + 382) (3018 * m + n + 2639) h133) hF (fun K135 hj135 hF => ?_) (fun q135 hF => ?_)
      · refine v_icmp_eq (pc := 1015) 1024 dL_law_1015 rfl (fun hc => ?_) (fun hc => ?_)
        · replace hF := (ifP hF).1 hc
          exact v_lle [some (sr (some (gxb G))), some (sr c1), some (sr c2), some (sr c3), some (sr c4), some (sr c5), some (sr c6), some (sr c7), none, some (si a.2.1), none, none, some (si (q1 / (26 : Int32))), none, none, none, none, none] ⟨rfl, rfl, rfl, rfl, rfl, rfl, rfl, rfl, rfl, rfl, trivial⟩ (hj135 () hF)
        replace hF := (ifP hF).2 hc
        refine v_iload (pc := 1018) (i := 11) dL_law_1018 rfl ?_
        refine v_iconst (pc := 1020) (v := (5 : Int32)) dL_law_1020 rfl ?_
        refine v_icmp_ne (pc := 1021) 1041 dL_law_1021 rfl (fun hc => ?_) (fun hc => ?_)
        · replace hF := (ifP hF).2 hc
          refine v_aload_n (pc := 1041) (i := 1) dL_law_1041 rfl rfl ?_
          refine v_iconst (pc := 1042) (v := (1 : Int32)) dL_law_1042 rfl ?_
          refine yc_V (pc := 1043) gI (as := [si (1 : Int32)]) (st := []) (ci := 9) (N := mX10_waiting) (k := 397 * m + k + 381) (n := 3018 * m + n + 2633) (k1 := 1) (n1 := 6) dL_law_1043 lkL_251 caX10_waiting cvX10_waiting rfl (by decide) rfl (fun b Q1 hq => tX10_waiting b (1 : Int32) h133 Q1 hq) ⟨by decide, by decide⟩ (Nat.le_of_ble_eq_true rfl) hF (fun x136 hF => ?_)
          show gV G (mLaw nm hh) 60 Q 1046 [some (sr (some (gxb G))), some (sr c1), some (sr c2), some (sr c3), some (sr c4), some (sr c5), some (sr c6), some (sr c7), some (si q6.1), some (si a.2.1), none, some (si q2), some (si (q1 / (26 : Int32))), none, none, none, none, none] [si x136] (397 * m + k + 381) (3018 * m + n + 2633) h133
          refine v_iconst (pc := 1046) (v := (2 : Int32)) dL_law_1046 rfl ?_
          refine v_icmp_ge (pc := 1047) 1062 dL_law_1047 rfl (fun hc => ?_) (fun hc => ?_)
          · replace hF := (ifP hF).1 hc
            refine v_iconst (pc := 1062) (v := (0 : Int32)) dL_law_1062 rfl ?_
            exact v_room (k' := 397 * m + k + 378) (n' := 3018 * m + n + 2615) (by omega) (by omega) <| v_lle [some (sr (some (gxb G))), some (sr c1), some (sr c2), some (sr c3), some (sr c4), some (sr c5), some (sr c6), some (sr c7), none, some (si a.2.1), none, none, some (si (q1 / (26 : Int32))), none, none, none, none, none] ⟨rfl, rfl, rfl, rfl, rfl, rfl, rfl, rfl, rfl, rfl, trivial⟩ (hj134 ((0 : Int32), h133) hF)
          replace hF := (ifP hF).2 hc
          refine v_aload_n (pc := 1050) (i := 1) dL_law_1050 rfl rfl ?_
          refine v_iconst (pc := 1051) (v := (0 : Int32)) dL_law_1051 rfl ?_
          refine yc_V (pc := 1052) gI (as := [si (0 : Int32)]) (st := []) (ci := 9) (N := mX10_waiting) (k := 397 * m + k + 380) (n := 3018 * m + n + 2627) (k1 := 1) (n1 := 6) dL_law_1052 lkL_251 caX10_waiting cvX10_waiting rfl (by decide) rfl (fun b Q1 hq => tX10_waiting b (0 : Int32) h133 Q1 hq) ⟨by decide, by decide⟩ (Nat.le_of_ble_eq_true rfl) hF (fun x137 hF => ?_)
          show gV G (mLaw nm hh) 60 Q 1055 [some (sr (some (gxb G))), some (sr c1), some (sr c2), some (sr c3), some (sr c4), some (sr c5), some (sr c6), some (sr c7), some (si q6.1), some (si a.2.1), none, some (si q2), some (si (q1 / (26 : Int32))), none, none, none, none, none] [si x137] (397 * m + k + 380) (3018 * m + n + 2627) h133
          refine v_if_ne (pc := 1055) 1062 dL_law_1055 rfl (fun hc => ?_) (fun hc => ?_)
          · replace hF := (ifP hF).2 hc
            refine v_iconst (pc := 1062) (v := (0 : Int32)) dL_law_1062 rfl ?_
            exact v_room (k' := 397 * m + k + 378) (n' := 3018 * m + n + 2615) (by omega) (by omega) <| v_lle [some (sr (some (gxb G))), some (sr c1), some (sr c2), some (sr c3), some (sr c4), some (sr c5), some (sr c6), some (sr c7), none, some (si a.2.1), none, none, some (si (q1 / (26 : Int32))), none, none, none, none, none] ⟨rfl, rfl, rfl, rfl, rfl, rfl, rfl, rfl, rfl, rfl, trivial⟩ (hj134 ((0 : Int32), h133) hF)
          replace hF := (ifP hF).1 hc
          refine v_iconst (pc := 1058) (v := (1 : Int32)) dL_law_1058 rfl ?_
          refine v_goto (pc := 1059) 1063 dL_law_1059 rfl ?_
          exact v_room (k' := 397 * m + k + 378) (n' := 3018 * m + n + 2615) (by omega) (by omega) <| v_lle [some (sr (some (gxb G))), some (sr c1), some (sr c2), some (sr c3), some (sr c4), some (sr c5), some (sr c6), some (sr c7), none, some (si a.2.1), none, none, some (si (q1 / (26 : Int32))), none, none, none, none, none] ⟨rfl, rfl, rfl, rfl, rfl, rfl, rfl, rfl, rfl, rfl, trivial⟩ (hj134 ((1 : Int32), h133) hF)
        replace hF := (ifP hF).1 hc
        exact v_lle [some (sr (some (gxb G))), some (sr c1), some (sr c2), some (sr c3), some (sr c4), some (sr c5), some (sr c6), some (sr c7), none, some (si a.2.1), none, none, some (si (q1 / (26 : Int32))), none, none, none, none, none] ⟨rfl, rfl, rfl, rfl, rfl, rfl, rfl, rfl, rfl, rfl, trivial⟩ (hj135 () hF)
      refine v_aload_n (pc := 1024) (i := 1) dL_law_1024 rfl rfl ?_
      refine v_bipush (pc := 1025) (v := (50 : Int32)) dL_law_1025 rfl ?_
      refine yx_V (pc := 1027) gI (as := [si (50 : Int32)]) (st := []) (ci := 9) (N := mX10_tick) (k := 397 * m + k + 381) (n := 3018 * m + n + 2633) (k1 := 1) (n1 := 6) dL_law_1027 lkL_248 caX10_tick cvX10_tick rfl (by decide) rfl (fun b Q1 hq => tX10_tick b (50 : Int32) h133 Q1 hq) ⟨by decide, by decide⟩ (Nat.le_of_ble_eq_true rfl) hF (fun x138 h139 hF => ?_)
      show gV G (mLaw nm hh) 60 Q 1030 [some (sr (some (gxb G))), some (sr c1), some (sr c2), some (sr c3), some (sr c4), some (sr c5), some (sr c6), some (sr c7), none, some (si a.2.1), none, none, some (si (q1 / (26 : Int32))), none, none, none, none, none] [si x138] (397 * m + k + 381) (3018 * m + n + 2633) h139
      refine v_if_lt (pc := 1030) 1062 dL_law_1030 rfl (fun hc => ?_) (fun hc => ?_)
      · replace hF := (ifP hF).1 hc
        refine v_iconst (pc := 1062) (v := (0 : Int32)) dL_law_1062 rfl ?_
        exact v_room (k' := 397 * m + k + 378) (n' := 3018 * m + n + 2615) (by omega) (by omega) <| v_lle [some (sr (some (gxb G))), some (sr c1), some (sr c2), some (sr c3), some (sr c4), some (sr c5), some (sr c6), some (sr c7), none, some (si a.2.1), none, none, some (si (q1 / (26 : Int32))), none, none, none, none, none] ⟨rfl, rfl, rfl, rfl, rfl, rfl, rfl, rfl, rfl, rfl, trivial⟩ (hj134 ((0 : Int32), h139) hF)
      replace hF := (ifP hF).2 hc
      refine v_aload_n (pc := 1033) (i := 1) dL_law_1033 rfl rfl ?_
      refine v_iconst (pc := 1034) (v := (2 : Int32)) dL_law_1034 rfl ?_
      refine yc_V (pc := 1035) gI (as := [si (2 : Int32)]) (st := []) (ci := 9) (N := mX10_waiting) (k := 397 * m + k + 380) (n := 3018 * m + n + 2627) (k1 := 1) (n1 := 6) dL_law_1035 lkL_251 caX10_waiting cvX10_waiting rfl (by decide) rfl (fun b Q1 hq => tX10_waiting b (2 : Int32) h139 Q1 hq) ⟨by decide, by decide⟩ (Nat.le_of_ble_eq_true rfl) hF (fun x140 hF => ?_)
      show gV G (mLaw nm hh) 60 Q 1038 [some (sr (some (gxb G))), some (sr c1), some (sr c2), some (sr c3), some (sr c4), some (sr c5), some (sr c6), some (sr c7), none, some (si a.2.1), none, none, some (si (q1 / (26 : Int32))), none, none, none, none, none] [si x140] (397 * m + k + 380) (3018 * m + n + 2627) h139
      refine v_if_ne (pc := 1038) 1062 dL_law_1038 rfl (fun hc => ?_) (fun hc => ?_)
      · replace hF := (ifP hF).2 hc
        refine v_iconst (pc := 1062) (v := (0 : Int32)) dL_law_1062 rfl ?_
        exact v_room (k' := 397 * m + k + 378) (n' := 3018 * m + n + 2615) (by omega) (by omega) <| v_lle [some (sr (some (gxb G))), some (sr c1), some (sr c2), some (sr c3), some (sr c4), some (sr c5), some (sr c6), some (sr c7), none, some (si a.2.1), none, none, some (si (q1 / (26 : Int32))), none, none, none, none, none] ⟨rfl, rfl, rfl, rfl, rfl, rfl, rfl, rfl, rfl, rfl, trivial⟩ (hj134 ((0 : Int32), h139) hF)
      replace hF := (ifP hF).1 hc
      refine v_aload_n (pc := 1041) (i := 1) dL_law_1041 rfl rfl ?_
      refine v_iconst (pc := 1042) (v := (1 : Int32)) dL_law_1042 rfl ?_
      refine yc_V (pc := 1043) gI (as := [si (1 : Int32)]) (st := []) (ci := 9) (N := mX10_waiting) (k := 397 * m + k + 379) (n := 3018 * m + n + 2621) (k1 := 1) (n1 := 6) dL_law_1043 lkL_251 caX10_waiting cvX10_waiting rfl (by decide) rfl (fun b Q1 hq => tX10_waiting b (1 : Int32) h139 Q1 hq) ⟨by decide, by decide⟩ (Nat.le_of_ble_eq_true rfl) hF (fun x141 hF => ?_)
      show gV G (mLaw nm hh) 60 Q 1046 [some (sr (some (gxb G))), some (sr c1), some (sr c2), some (sr c3), some (sr c4), some (sr c5), some (sr c6), some (sr c7), none, some (si a.2.1), none, none, some (si (q1 / (26 : Int32))), none, none, none, none, none] [si x141] (397 * m + k + 379) (3018 * m + n + 2621) h139
      refine v_iconst (pc := 1046) (v := (2 : Int32)) dL_law_1046 rfl ?_
      refine v_icmp_ge (pc := 1047) 1062 dL_law_1047 rfl (fun hc => ?_) (fun hc => ?_)
      · replace hF := (ifP hF).1 hc
        refine v_iconst (pc := 1062) (v := (0 : Int32)) dL_law_1062 rfl ?_
        exact v_room (k' := 397 * m + k + 378) (n' := 3018 * m + n + 2615) (by omega) (by omega) <| v_lle [some (sr (some (gxb G))), some (sr c1), some (sr c2), some (sr c3), some (sr c4), some (sr c5), some (sr c6), some (sr c7), none, some (si a.2.1), none, none, some (si (q1 / (26 : Int32))), none, none, none, none, none] ⟨rfl, rfl, rfl, rfl, rfl, rfl, rfl, rfl, rfl, rfl, trivial⟩ (hj134 ((0 : Int32), h139) hF)
      replace hF := (ifP hF).2 hc
      refine v_aload_n (pc := 1050) (i := 1) dL_law_1050 rfl rfl ?_
      refine v_iconst (pc := 1051) (v := (0 : Int32)) dL_law_1051 rfl ?_
      refine yc_V (pc := 1052) gI (as := [si (0 : Int32)]) (st := []) (ci := 9) (N := mX10_waiting) (k := 397 * m + k + 378) (n := 3018 * m + n + 2615) (k1 := 1) (n1 := 6) dL_law_1052 lkL_251 caX10_waiting cvX10_waiting rfl (by decide) rfl (fun b Q1 hq => tX10_waiting b (0 : Int32) h139 Q1 hq) ⟨by decide, by decide⟩ (Nat.le_of_ble_eq_true rfl) hF (fun x142 hF => ?_)
      show gV G (mLaw nm hh) 60 Q 1055 [some (sr (some (gxb G))), some (sr c1), some (sr c2), some (sr c3), some (sr c4), some (sr c5), some (sr c6), some (sr c7), none, some (si a.2.1), none, none, some (si (q1 / (26 : Int32))), none, none, none, none, none] [si x142] (397 * m + k + 378) (3018 * m + n + 2615) h139
      refine v_if_ne (pc := 1055) 1062 dL_law_1055 rfl (fun hc => ?_) (fun hc => ?_)
      · replace hF := (ifP hF).2 hc
        refine v_iconst (pc := 1062) (v := (0 : Int32)) dL_law_1062 rfl ?_
        exact v_lle [some (sr (some (gxb G))), some (sr c1), some (sr c2), some (sr c3), some (sr c4), some (sr c5), some (sr c6), some (sr c7), none, some (si a.2.1), none, none, some (si (q1 / (26 : Int32))), none, none, none, none, none] ⟨rfl, rfl, rfl, rfl, rfl, rfl, rfl, rfl, rfl, rfl, trivial⟩ (hj134 ((0 : Int32), h139) hF)
      replace hF := (ifP hF).1 hc
      refine v_iconst (pc := 1058) (v := (1 : Int32)) dL_law_1058 rfl ?_
      refine v_goto (pc := 1059) 1063 dL_law_1059 rfl ?_
      exact v_lle [some (sr (some (gxb G))), some (sr c1), some (sr c2), some (sr c3), some (sr c4), some (sr c5), some (sr c6), some (sr c7), none, some (si a.2.1), none, none, some (si (q1 / (26 : Int32))), none, none, none, none, none] ⟨rfl, rfl, rfl, rfl, rfl, rfl, rfl, rfl, rfl, rfl, trivial⟩ (hj134 ((1 : Int32), h139) hF)
    refine v_istore (pc := 1063) (i := 8) [some (sr (some (gxb G))), some (sr c1), some (sr c2), some (sr c3), some (sr c4), some (sr c5), some (sr c6), some (sr c7), some (si q134.1), some (si a.2.1), none, none, some (si (q1 / (26 : Int32))), none, none, none, none, none] dL_law_1063 (show 8 < 18 by decide) rfl rfl ?_
    refine v_iload (pc := 1065) (i := 8) dL_law_1065 rfl ?_
    refine v_if_eq (pc := 1067) 1099 dL_law_1067 rfl (fun hc => ?_) (fun hc => ?_)
    · replace hF := (ifP hF).1 hc
      refine v_iconst (pc := 1099) (v := (0 : Int32)) dL_law_1099 rfl ?_
      refine v_istore (pc := 1100) (i := 8) [some (sr (some (gxb G))), some (sr c1), some (sr c2), some (sr c3), some (sr c4), some (sr c5), some (sr c6), some (sr c7), some (si (0 : Int32)), some (si a.2.1), none, none, some (si (q1 / (26 : Int32))), none, none, none, none, none] dL_law_1100 (show 8 < 18 by decide) rfl rfl ?_
      refine v_iinc (pc := 1102) (i := 9) (a.2.1 + (1 : Int32)) [some (sr (some (gxb G))), some (sr c1), some (sr c2), some (sr c3), some (sr c4), some (sr c5), some (sr c6), some (sr c7), some (si (0 : Int32)), some (si (a.2.1 + (1 : Int32))), none, none, some (si (q1 / (26 : Int32))), none, none, none, none, none] dL_law_1102 rfl rfl rfl rfl ?_
      refine v_goto (pc := 1105) 72 dL_law_1105 rfl ?_
      exact v_room (k' := 397 * m + k) (n' := 3018 * m + n) (by omega) (by omega) <| v_lle [some (sr (some (gxb G))), some (sr c1), some (sr c2), some (sr c3), some (sr c4), some (sr c5), some (sr c6), some (sr c7), some (si (0 : Int32)), some (si (a.2.1 + (1 : Int32))), none, none, none, none, none, none, none, none] ⟨rfl, rfl, rfl, rfl, rfl, rfl, rfl, rfl, rfl, rfl, trivial⟩ (hL ((0 : Int32), a.2.1 + (1 : Int32), q134.2) hF)
    replace hF := (ifP hF).2 hc
    refine v_iload (pc := 1070) (i := 9) dL_law_1070 rfl ?_
    refine v_iconst (pc := 1072) (v := (4 : Int32)) dL_law_1072 rfl ?_
    refine s_irem (f := some) (pc := 1073) dL_law_1073 (okB_bs hF) (fun hF => ?_)
    replace hF := okB_some hF
    refine v_iconst (pc := 1074) (v := (3 : Int32)) dL_law_1074 rfl ?_
    refine v_icmp_lt (pc := 1075) 1095 dL_law_1075 rfl (fun hc => ?_) (fun hc => ?_)
    · replace hF := (ifP hF).1 hc
      refine v_iconst (pc := 1095) (v := (1 : Int32)) dL_law_1095 rfl ?_
      refine v_goto (pc := 1096) 1100 dL_law_1096 rfl ?_
      refine v_istore (pc := 1100) (i := 8) [some (sr (some (gxb G))), some (sr c1), some (sr c2), some (sr c3), some (sr c4), some (sr c5), some (sr c6), some (sr c7), some (si (1 : Int32)), some (si a.2.1), none, none, some (si (q1 / (26 : Int32))), none, none, none, none, none] dL_law_1100 (show 8 < 18 by decide) rfl rfl ?_
      refine v_iinc (pc := 1102) (i := 9) (a.2.1 + (1 : Int32)) [some (sr (some (gxb G))), some (sr c1), some (sr c2), some (sr c3), some (sr c4), some (sr c5), some (sr c6), some (sr c7), some (si (1 : Int32)), some (si (a.2.1 + (1 : Int32))), none, none, some (si (q1 / (26 : Int32))), none, none, none, none, none] dL_law_1102 rfl rfl rfl rfl ?_
      refine v_goto (pc := 1105) 72 dL_law_1105 rfl ?_
      exact v_room (k' := 397 * m + k) (n' := 3018 * m + n) (by omega) (by omega) <| v_lle [some (sr (some (gxb G))), some (sr c1), some (sr c2), some (sr c3), some (sr c4), some (sr c5), some (sr c6), some (sr c7), some (si (1 : Int32)), some (si (a.2.1 + (1 : Int32))), none, none, none, none, none, none, none, none] ⟨rfl, rfl, rfl, rfl, rfl, rfl, rfl, rfl, rfl, rfl, trivial⟩ (hL ((1 : Int32), a.2.1 + (1 : Int32), q134.2) hF)
    replace hF := (ifP hF).2 hc
    refine v_aload_n (pc := 1078) (i := 1) dL_law_1078 rfl rfl ?_
    refine v_aload_n (pc := 1079) (i := 2) dL_law_1079 rfl rfl ?_
    refine v_aload_n (pc := 1080) (i := 3) dL_law_1080 rfl rfl ?_
    refine v_aload (pc := 1081) (i := 4) dL_law_1081 rfl ?_
    refine v_aload (pc := 1083) (i := 5) dL_law_1083 rfl ?_
    refine v_aload (pc := 1085) (i := 6) dL_law_1085 rfl ?_
    refine v_iload (pc := 1087) (i := 12) dL_law_1087 rfl ?_
    refine yw_S (pc := 1089) (as := [sr c1, sr c2, sr c3, sr c4, sr c5, sr c6, si (q1 / (26 : Int32))]) (st := []) (N := mL_isDesk) (k := 397 * m + k + 0) (n := 3018 * m + n + 0) (k1 := 378) (n1 := 2615) gI _ dL_law_1089 lkL_227 caL_isDesk csL_isDesk rfl rfl (tL_isDesk c1 c2 c3 c4 c5 c6 (q1 / (26 : Int32)) q134.2 _ _ (fun x9 h9 hx => ⟨x9, rfl, hx⟩) hF) ⟨by decide, by decide⟩ (Nat.le_of_ble_eq_true rfl) (fun x143 h144 hF => ?_)
    show gV G (mLaw nm hh) 60 Q 1092 [some (sr (some (gxb G))), some (sr c1), some (sr c2), some (sr c3), some (sr c4), some (sr c5), some (sr c6), some (sr c7), some (si q134.1), some (si a.2.1), none, none, some (si (q1 / (26 : Int32))), none, none, none, none, none] [si x143] (397 * m + k + 0) (3018 * m + n + 0) h144
    refine v_if_eq (pc := 1092) 1099 dL_law_1092 rfl (fun hc => ?_) (fun hc => ?_)
    · replace hF := (ifP hF).1 hc
      refine v_iconst (pc := 1099) (v := (0 : Int32)) dL_law_1099 rfl ?_
      refine v_istore (pc := 1100) (i := 8) [some (sr (some (gxb G))), some (sr c1), some (sr c2), some (sr c3), some (sr c4), some (sr c5), some (sr c6), some (sr c7), some (si (0 : Int32)), some (si a.2.1), none, none, some (si (q1 / (26 : Int32))), none, none, none, none, none] dL_law_1100 (show 8 < 18 by decide) rfl rfl ?_
      refine v_iinc (pc := 1102) (i := 9) (a.2.1 + (1 : Int32)) [some (sr (some (gxb G))), some (sr c1), some (sr c2), some (sr c3), some (sr c4), some (sr c5), some (sr c6), some (sr c7), some (si (0 : Int32)), some (si (a.2.1 + (1 : Int32))), none, none, some (si (q1 / (26 : Int32))), none, none, none, none, none] dL_law_1102 rfl rfl rfl rfl ?_
      refine v_goto (pc := 1105) 72 dL_law_1105 rfl ?_
      exact v_room (k' := 397 * m + k) (n' := 3018 * m + n) (by omega) (by omega) <| v_lle [some (sr (some (gxb G))), some (sr c1), some (sr c2), some (sr c3), some (sr c4), some (sr c5), some (sr c6), some (sr c7), some (si (0 : Int32)), some (si (a.2.1 + (1 : Int32))), none, none, none, none, none, none, none, none] ⟨rfl, rfl, rfl, rfl, rfl, rfl, rfl, rfl, rfl, rfl, trivial⟩ (hL ((0 : Int32), a.2.1 + (1 : Int32), h144) hF)
    replace hF := (ifP hF).2 hc
    refine v_iconst (pc := 1095) (v := (1 : Int32)) dL_law_1095 rfl ?_
    refine v_goto (pc := 1096) 1100 dL_law_1096 rfl ?_
    refine v_istore (pc := 1100) (i := 8) [some (sr (some (gxb G))), some (sr c1), some (sr c2), some (sr c3), some (sr c4), some (sr c5), some (sr c6), some (sr c7), some (si (1 : Int32)), some (si a.2.1), none, none, some (si (q1 / (26 : Int32))), none, none, none, none, none] dL_law_1100 (show 8 < 18 by decide) rfl rfl ?_
    refine v_iinc (pc := 1102) (i := 9) (a.2.1 + (1 : Int32)) [some (sr (some (gxb G))), some (sr c1), some (sr c2), some (sr c3), some (sr c4), some (sr c5), some (sr c6), some (sr c7), some (si (1 : Int32)), some (si (a.2.1 + (1 : Int32))), none, none, some (si (q1 / (26 : Int32))), none, none, none, none, none] dL_law_1102 rfl rfl rfl rfl ?_
    refine v_goto (pc := 1105) 72 dL_law_1105 rfl ?_
    exact v_room (k' := 397 * m + k) (n' := 3018 * m + n) (by omega) (by omega) <| v_lle [some (sr (some (gxb G))), some (sr c1), some (sr c2), some (sr c3), some (sr c4), some (sr c5), some (sr c6), some (sr c7), some (si (1 : Int32)), some (si (a.2.1 + (1 : Int32))), none, none, none, none, none, none, none, none] ⟨rfl, rfl, rfl, rfl, rfl, rfl, rfl, rfl, rfl, rfl, trivial⟩ (hL ((1 : Int32), a.2.1 + (1 : Int32), h144) hF))
theorem tL_law {G : gG} {nm : String} {hh : List (Nat × Nat × Nat × Nat)} (h : hp) (K : Int32 → hp → Prop) (Q : hQ) (hK : ∀ x h', K x h' → Q (.inl (some (si x))) h') (hF : fL_law G h K) : gV G (mLaw nm hh) 60 Q 0 [some (sr (some (gxb G))), none, none, none, none, none, none, none, none, none, none, none, none, none, none, none, none, none] [] 53290 409736 h := by
  delta fL_law at hF
  refine v_new (pc := 0) (ci := 9) (k := 53289) (n := 409729) dL_law_0 (by decide) ccL_105 ins_9 ini_9 ?_
  refine v_dup (pc := 3) dL_law_3 rfl ?_
  refine yh_I (pc := 4) (as := []) (st := [sr (some (hN h))]) (N := mX10_init) (k := 53166) (n := 403777) (k1 := 123) (n1 := 5952) dL_law_4 lkL_226 caX10_init ciX10_init rfl rfl rfl (fun Q1 hq => tX10_init (hN h) (wN h (10, 0)) Q1 hq) ⟨by decide, by decide⟩ (Nat.le_of_ble_eq_true rfl) hF (fun _ h1 hF => ?_)
  refine v_astore_n (pc := 7) (i := 1) [some (sr (some (gxb G))), some (sr (some (hN h))), none, none, none, none, none, none, none, none, none, none, none, none, none, none, none, none] dL_law_7 rfl (show 1 < 18 by decide) rfl rfl ?_
  refine v_bipush (pc := 8) (v := (7 : Int32)) dL_law_8 rfl ?_
  refine v_newI (pc := 10) (k := 53165) (n := 403770) (len := 7) dL_law_10 rfl (by decide) ?_
  refine v_astore_n (pc := 12) (i := 2) [some (sr (some (gxb G))), some (sr (some (hN h))), some (sr (some (hN h1))), none, none, none, none, none, none, none, none, none, none, none, none, none, none, none] dL_law_12 rfl (show 2 < 18 by decide) rfl rfl ?_
  refine v_bipush (pc := 13) (v := (60 : Int32)) dL_law_13 rfl ?_
  refine v_newI (pc := 15) (k := 53164) (n := 403710) (len := 60) dL_law_15 rfl (by decide) ?_
  refine v_astore_n (pc := 17) (i := 3) [some (sr (some (gxb G))), some (sr (some (hN h))), some (sr (some (hN h1))), some (sr (some (hN (wN h1 (20, 7))))), none, none, none, none, none, none, none, none, none, none, none, none, none, none] dL_law_17 rfl (show 3 < 18 by decide) rfl rfl ?_
  refine v_bipush (pc := 18) (v := (10 : Int32)) dL_law_18 rfl ?_
  refine v_newJ (pc := 20) (k := 53163) (n := 403700) (len := 10) dL_law_20 rfl (by decide) ?_
  refine v_astore (pc := 22) (i := 4) [some (sr (some (gxb G))), some (sr (some (hN h))), some (sr (some (hN h1))), some (sr (some (hN (wN h1 (20, 7))))), some (sr (some (hN (wN (wN h1 (20, 7)) (20, 60))))), none, none, none, none, none, none, none, none, none, none, none, none, none] dL_law_22 (show 4 < 18 by decide) rfl rfl ?_
  refine v_bipush (pc := 24) (v := (20 : Int32)) dL_law_24 rfl ?_
  refine v_newJ (pc := 26) (k := 53162) (n := 403680) (len := 20) dL_law_26 rfl (by decide) ?_
  refine v_astore (pc := 28) (i := 5) [some (sr (some (gxb G))), some (sr (some (hN h))), some (sr (some (hN h1))), some (sr (some (hN (wN h1 (20, 7))))), some (sr (some (hN (wN (wN h1 (20, 7)) (20, 60))))), some (sr (some (hN (wN (wN (wN h1 (20, 7)) (20, 60)) (24, 10))))), none, none, none, none, none, none, none, none, none, none, none, none] dL_law_28 (show 5 < 18 by decide) rfl rfl ?_
  refine v_bipush (pc := 30) (v := (10 : Int32)) dL_law_30 rfl ?_
  refine v_newI (pc := 32) (k := 53161) (n := 403670) (len := 10) dL_law_32 rfl (by decide) ?_
  refine v_astore (pc := 34) (i := 6) [some (sr (some (gxb G))), some (sr (some (hN h))), some (sr (some (hN h1))), some (sr (some (hN (wN h1 (20, 7))))), some (sr (some (hN (wN (wN h1 (20, 7)) (20, 60))))), some (sr (some (hN (wN (wN (wN h1 (20, 7)) (20, 60)) (24, 10))))), some (sr (some (hN (wN (wN (wN (wN h1 (20, 7)) (20, 60)) (24, 10)) (24, 20))))), none, none, none, none, none, none, none, none, none, none, none] dL_law_34 (show 6 < 18 by decide) rfl rfl ?_
  refine v_bipush (pc := 36) (v := (64 : Int32)) dL_law_36 rfl ?_
  refine v_newI (pc := 38) (k := 53160) (n := 403606) (len := 64) dL_law_38 rfl (by decide) ?_
  refine v_astore (pc := 40) (i := 7) [some (sr (some (gxb G))), some (sr (some (hN h))), some (sr (some (hN h1))), some (sr (some (hN (wN h1 (20, 7))))), some (sr (some (hN (wN (wN h1 (20, 7)) (20, 60))))), some (sr (some (hN (wN (wN (wN h1 (20, 7)) (20, 60)) (24, 10))))), some (sr (some (hN (wN (wN (wN (wN h1 (20, 7)) (20, 60)) (24, 10)) (24, 20))))), some (sr (some (hN (wN (wN (wN (wN (wN h1 (20, 7)) (20, 60)) (24, 10)) (24, 20)) (20, 10))))), none, none, none, none, none, none, none, none, none, none] dL_law_40 (show 7 < 18 by decide) rfl rfl ?_
  refine v_aload_n (pc := 42) (i := 2) dL_law_42 rfl rfl ?_
  refine v_iconst (pc := 43) (v := (0 : Int32)) dL_law_43 rfl ?_
  refine v_iconst (pc := 44) (v := (1 : Int32)) dL_law_44 rfl ?_
  refine s_iast (f := some) (pc := 45) dL_law_45 (okB_bs hF) (fun h2 hF => ?_)
  replace hF := okB_some hF
  refine v_aload_n (pc := 46) (i := 3) dL_law_46 rfl rfl ?_
  refine v_iconst (pc := 47) (v := (1 : Int32)) dL_law_47 rfl ?_
  refine v_iconst (pc := 48) (v := (-1 : Int32)) dL_law_48 rfl ?_
  refine s_iast (f := some) (pc := 49) dL_law_49 (okB_bs hF) (fun h3 hF => ?_)
  replace hF := okB_some hF
  refine v_aload_n (pc := 50) (i := 3) dL_law_50 rfl rfl ?_
  refine v_iconst (pc := 51) (v := (3 : Int32)) dL_law_51 rfl ?_
  refine v_iconst (pc := 52) (v := (1 : Int32)) dL_law_52 rfl ?_
  refine s_iast (f := some) (pc := 53) dL_law_53 (okB_bs hF) (fun h4 hF => ?_)
  replace hF := okB_some hF
  refine v_aload_n (pc := 54) (i := 1) dL_law_54 rfl rfl ?_
  refine v_aload_n (pc := 55) (i := 2) dL_law_55 rfl rfl ?_
  refine v_aload_n (pc := 56) (i := 3) dL_law_56 rfl rfl ?_
  refine v_aload (pc := 57) (i := 4) dL_law_57 rfl ?_
  refine v_aload (pc := 59) (i := 5) dL_law_59 rfl ?_
  refine v_aload (pc := 61) (i := 6) dL_law_61 rfl ?_
  refine v_iconst (pc := 63) (v := (0 : Int32)) dL_law_63 rfl ?_
  refine yw_S (pc := 64) (as := [sr (some (hN h)), sr (some (hN h1)), sr (some (hN (wN h1 (20, 7)))), sr (some (hN (wN (wN h1 (20, 7)) (20, 60)))), sr (some (hN (wN (wN (wN h1 (20, 7)) (20, 60)) (24, 10)))), sr (some (hN (wN (wN (wN (wN h1 (20, 7)) (20, 60)) (24, 10)) (24, 20)))), si (0 : Int32)]) (st := []) (N := mL_isDesk) (k := 52782) (n := 400991) (k1 := 378) (n1 := 2615) gI _ dL_law_64 lkL_227 caL_isDesk csL_isDesk rfl rfl (tL_isDesk (some (hN h)) (some (hN h1)) (some (hN (wN h1 (20, 7)))) (some (hN (wN (wN h1 (20, 7)) (20, 60)))) (some (hN (wN (wN (wN h1 (20, 7)) (20, 60)) (24, 10)))) (some (hN (wN (wN (wN (wN h1 (20, 7)) (20, 60)) (24, 10)) (24, 20)))) (0 : Int32) h4 _ _ (fun x9 h9 hx => ⟨x9, rfl, hx⟩) hF) ⟨by decide, by decide⟩ (Nat.le_of_ble_eq_true rfl) (fun x5 h6 hF => ?_)
  show gV G (mLaw nm hh) 60 Q 67 [some (sr (some (gxb G))), some (sr (some (hN h))), some (sr (some (hN h1))), some (sr (some (hN (wN h1 (20, 7))))), some (sr (some (hN (wN (wN h1 (20, 7)) (20, 60))))), some (sr (some (hN (wN (wN (wN h1 (20, 7)) (20, 60)) (24, 10))))), some (sr (some (hN (wN (wN (wN (wN h1 (20, 7)) (20, 60)) (24, 10)) (24, 20))))), some (sr (some (hN (wN (wN (wN (wN (wN h1 (20, 7)) (20, 60)) (24, 10)) (24, 20)) (20, 10))))), none, none, none, none, none, none, none, none, none, none] [si x5] (52782) (400991) h6
  refine v_istore (pc := 67) (i := 8) [some (sr (some (gxb G))), some (sr (some (hN h))), some (sr (some (hN h1))), some (sr (some (hN (wN h1 (20, 7))))), some (sr (some (hN (wN (wN h1 (20, 7)) (20, 60))))), some (sr (some (hN (wN (wN (wN h1 (20, 7)) (20, 60)) (24, 10))))), some (sr (some (hN (wN (wN (wN (wN h1 (20, 7)) (20, 60)) (24, 10)) (24, 20))))), some (sr (some (hN (wN (wN (wN (wN (wN h1 (20, 7)) (20, 60)) (24, 10)) (24, 20)) (20, 10))))), some (si x5), none, none, none, none, none, none, none, none, none] dL_law_67 (show 8 < 18 by decide) rfl rfl ?_
  refine v_iconst (pc := 69) (v := (0 : Int32)) dL_law_69 rfl ?_
  refine v_istore (pc := 70) (i := 9) [some (sr (some (gxb G))), some (sr (some (hN h))), some (sr (some (hN h1))), some (sr (some (hN (wN h1 (20, 7))))), some (sr (some (hN (wN (wN h1 (20, 7)) (20, 60))))), some (sr (some (hN (wN (wN (wN h1 (20, 7)) (20, 60)) (24, 10))))), some (sr (some (hN (wN (wN (wN (wN h1 (20, 7)) (20, 60)) (24, 10)) (24, 20))))), some (sr (some (hN (wN (wN (wN (wN (wN h1 (20, 7)) (20, 60)) (24, 10)) (24, 20)) (20, 10))))), some (si x5), some (si (0 : Int32)), none, none, none, none, none, none, none, none] dL_law_70 (show 9 < 18 by decide) rfl rfl ?_
  refine mgW (X := fun q7 => gV G (mLaw nm hh) 60 Q 1108 [none, some (sr (some (hN h))), some (sr (some (hN h1))), some (sr (some (hN (wN h1 (20, 7))))), some (sr (some (hN (wN (wN h1 (20, 7)) (20, 60))))), some (sr (some (hN (wN (wN (wN h1 (20, 7)) (20, 60)) (24, 10))))), some (sr (some (hN (wN (wN (wN (wN h1 (20, 7)) (20, 60)) (24, 10)) (24, 20))))), none, some (si q7.1), none, none, none, none, none, none, none, none, none] [] (378) (2615) q7.2) hF (fun _ hj hF => v_room (k' := 397 * 132 + (378)) (n' := 3018 * 132 + (2615)) (by decide) (by decide) <| v_lle [some (sr (some (gxb G))), some (sr (some (hN h))), some (sr (some (hN h1))), some (sr (some (hN (wN h1 (20, 7))))), some (sr (some (hN (wN (wN h1 (20, 7)) (20, 60))))), some (sr (some (hN (wN (wN (wN h1 (20, 7)) (20, 60)) (24, 10))))), some (sr (some (hN (wN (wN (wN (wN h1 (20, 7)) (20, 60)) (24, 10)) (24, 20))))), some (sr (some (hN (wN (wN (wN (wN (wN h1 (20, 7)) (20, 60)) (24, 10)) (24, 20)) (20, 10))))), some (si x5), some (si (0 : Int32)), none, none, none, none, none, none, none, none] ⟨rfl, rfl, rfl, rfl, rfl, rfl, rfl, rfl, rfl, rfl, trivial⟩ (lL_law_72 (some (hN h)) (some (hN h1)) (some (hN (wN h1 (20, 7)))) (some (hN (wN (wN h1 (20, 7)) (20, 60)))) (some (hN (wN (wN (wN h1 (20, 7)) (20, 60)) (24, 10)))) (some (hN (wN (wN (wN (wN h1 (20, 7)) (20, 60)) (24, 10)) (24, 20)))) (some (hN (wN (wN (wN (wN (wN h1 (20, 7)) (20, 60)) (24, 10)) (24, 20)) (20, 10)))) hj 132 (x5, (0 : Int32), h6) hF)) (fun q7 hF => ?_)
  refine v_iload (pc := 1108) (i := 8) dL_law_1108 rfl ?_
  refine v_if_eq (pc := 1110) 1133 dL_law_1110 rfl (fun hc => ?_) (fun hc => ?_)
  · replace hF := (ifP hF).1 hc
    refine v_iconst (pc := 1133) (v := (0 : Int32)) dL_law_1133 rfl ?_
    exact v_iret (pc := 1134) dL_law_1134 rfl rfl (hK _ _ hF)
  replace hF := (ifP hF).2 hc
  refine v_aload_n (pc := 1113) (i := 1) dL_law_1113 rfl rfl ?_
  refine v_aload_n (pc := 1114) (i := 2) dL_law_1114 rfl rfl ?_
  refine v_aload_n (pc := 1115) (i := 3) dL_law_1115 rfl rfl ?_
  refine v_aload (pc := 1116) (i := 4) dL_law_1116 rfl ?_
  refine v_aload (pc := 1118) (i := 5) dL_law_1118 rfl ?_
  refine v_aload (pc := 1120) (i := 6) dL_law_1120 rfl ?_
  refine v_iconst (pc := 1122) (v := (5 : Int32)) dL_law_1122 rfl ?_
  refine yw_S (pc := 1123) (as := [sr (some (hN h)), sr (some (hN h1)), sr (some (hN (wN h1 (20, 7)))), sr (some (hN (wN (wN h1 (20, 7)) (20, 60)))), sr (some (hN (wN (wN (wN h1 (20, 7)) (20, 60)) (24, 10)))), sr (some (hN (wN (wN (wN (wN h1 (20, 7)) (20, 60)) (24, 10)) (24, 20)))), si (5 : Int32)]) (st := []) (N := mL_isDesk) (k := 0) (n := 0) (k1 := 378) (n1 := 2615) gI _ dL_law_1123 lkL_227 caL_isDesk csL_isDesk rfl rfl (tL_isDesk (some (hN h)) (some (hN h1)) (some (hN (wN h1 (20, 7)))) (some (hN (wN (wN h1 (20, 7)) (20, 60)))) (some (hN (wN (wN (wN h1 (20, 7)) (20, 60)) (24, 10)))) (some (hN (wN (wN (wN (wN h1 (20, 7)) (20, 60)) (24, 10)) (24, 20)))) (5 : Int32) q7.2 _ _ (fun x9 h9 hx => ⟨x9, rfl, hx⟩) hF) ⟨by decide, by decide⟩ (Nat.le_of_ble_eq_true rfl) (fun x8 h9 hF => ?_)
  show gV G (mLaw nm hh) 60 Q 1126 [none, some (sr (some (hN h))), some (sr (some (hN h1))), some (sr (some (hN (wN h1 (20, 7))))), some (sr (some (hN (wN (wN h1 (20, 7)) (20, 60))))), some (sr (some (hN (wN (wN (wN h1 (20, 7)) (20, 60)) (24, 10))))), some (sr (some (hN (wN (wN (wN (wN h1 (20, 7)) (20, 60)) (24, 10)) (24, 20))))), none, some (si q7.1), none, none, none, none, none, none, none, none, none] [si x8] (0) (0) h9
  refine v_if_eq (pc := 1126) 1133 dL_law_1126 rfl (fun hc => ?_) (fun hc => ?_)
  · replace hF := (ifP hF).1 hc
    refine v_iconst (pc := 1133) (v := (0 : Int32)) dL_law_1133 rfl ?_
    exact v_iret (pc := 1134) dL_law_1134 rfl rfl (hK _ _ hF)
  replace hF := (ifP hF).2 hc
  refine v_iconst (pc := 1129) (v := (1 : Int32)) dL_law_1129 rfl ?_
  refine v_goto (pc := 1130) 1134 dL_law_1130 rfl ?_
  exact v_iret (pc := 1134) dL_law_1134 rfl rfl (hK _ _ hF)
