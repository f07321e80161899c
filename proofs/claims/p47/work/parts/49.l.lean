/-! ===== the law's methods over its arrays: their functions and rows ===== -/
theorem dL_types_0 : decode cL_types 0 = .ok (.aload_n 0, 1) := by decide +kernel
theorem dL_types_1 : decode cL_types 1 = .ok (.iconst 1, 1) := by decide +kernel
theorem dL_types_2 : decode cL_types 2 = .ok (.iaload, 1) := by decide +kernel
theorem dL_types_3 : decode cL_types 3 = .ok (.istore 4, 2) := by decide +kernel
theorem dL_types_5 : decode cL_types 5 = .ok (.iload_n 3, 1) := by decide +kernel
theorem dL_types_6 : decode cL_types 6 = .ok (.bipush 50, 2) := by decide +kernel
theorem dL_types_8 : decode cL_types 8 = .ok (.if_icmp .ne 8, 3) := by decide +kernel
theorem dL_types_11 : decode cL_types 11 = .ok (.bipush 46, 2) := by decide +kernel
theorem dL_types_13 : decode cL_types 13 = .ok (.goto 48, 3) := by decide +kernel
theorem dL_types_16 : decode cL_types 16 = .ok (.iload_n 3, 1) := by decide +kernel
theorem dL_types_17 : decode cL_types 17 = .ok (.iconst 2, 1) := by decide +kernel
theorem dL_types_18 : decode cL_types 18 = .ok (.if_icmp .ne 8, 3) := by decide +kernel
theorem dL_types_21 : decode cL_types 21 = .ok (.bipush 44, 2) := by decide +kernel
theorem dL_types_23 : decode cL_types 23 = .ok (.goto 38, 3) := by decide +kernel
theorem dL_types_26 : decode cL_types 26 = .ok (.iload_n 3, 1) := by decide +kernel
theorem dL_types_27 : decode cL_types 27 = .ok (.bipush 38, 2) := by decide +kernel
theorem dL_types_29 : decode cL_types 29 = .ok (.if_icmp .ne 8, 3) := by decide +kernel
theorem dL_types_32 : decode cL_types 32 = .ok (.bipush 63, 2) := by decide +kernel
theorem dL_types_34 : decode cL_types 34 = .ok (.goto 27, 3) := by decide +kernel
theorem dL_types_37 : decode cL_types 37 = .ok (.iload_n 3, 1) := by decide +kernel
theorem dL_types_38 : decode cL_types 38 = .ok (.bipush 36, 2) := by decide +kernel
theorem dL_types_40 : decode cL_types 40 = .ok (.if_icmp .ne 8, 3) := by decide +kernel
theorem dL_types_43 : decode cL_types 43 = .ok (.bipush 45, 2) := by decide +kernel
theorem dL_types_45 : decode cL_types 45 = .ok (.goto 16, 3) := by decide +kernel
theorem dL_types_48 : decode cL_types 48 = .ok (.iload_n 3, 1) := by decide +kernel
theorem dL_types_49 : decode cL_types 49 = .ok (.sipush 256, 3) := by decide +kernel
theorem dL_types_52 : decode cL_types 52 = .ok (.if_icmp .ne 8, 3) := by decide +kernel
theorem dL_types_55 : decode cL_types 55 = .ok (.bipush 32, 2) := by decide +kernel
theorem dL_types_57 : decode cL_types 57 = .ok (.goto 4, 3) := by decide +kernel
theorem dL_types_60 : decode cL_types 60 = .ok (.iconst 0, 1) := by decide +kernel
theorem dL_types_61 : decode cL_types 61 = .ok (.istore 5, 2) := by decide +kernel
theorem dL_types_63 : decode cL_types 63 = .ok (.iconst 0, 1) := by decide +kernel
theorem dL_types_64 : decode cL_types 64 = .ok (.istore 6, 2) := by decide +kernel
theorem dL_types_66 : decode cL_types 66 = .ok (.iconst 0, 1) := by decide +kernel
theorem dL_types_67 : decode cL_types 67 = .ok (.istore 7, 2) := by decide +kernel
theorem dL_types_69 : decode cL_types 69 = .ok (.iload 7, 2) := by decide +kernel
theorem dL_types_71 : decode cL_types 71 = .ok (.bipush 26, 2) := by decide +kernel
theorem dL_types_73 : decode cL_types 73 = .ok (.if_icmp .ge 83, 3) := by decide +kernel
theorem dL_types_76 : decode cL_types 76 = .ok (.iload 7, 2) := by decide +kernel
theorem dL_types_78 : decode cL_types 78 = .ok (.invokestatic 59, 3) := by decide +kernel
theorem dL_types_81 : decode cL_types 81 = .ok (.iload_n 3, 1) := by decide +kernel
theorem dL_types_82 : decode cL_types 82 = .ok (.if_icmp .ne 68, 3) := by decide +kernel
theorem dL_types_85 : decode cL_types 85 = .ok (.aload_n 0, 1) := by decide +kernel
theorem dL_types_86 : decode cL_types 86 = .ok (.bipush 6, 2) := by decide +kernel
theorem dL_types_88 : decode cL_types 88 = .ok (.iaload, 1) := by decide +kernel
theorem dL_types_89 : decode cL_types 89 = .ok (.iconst 1, 1) := by decide +kernel
theorem dL_types_90 : decode cL_types 90 = .ok (.if_icmp .ne 20, 3) := by decide +kernel
theorem dL_types_93 : decode cL_types 93 = .ok (.aload_n 0, 1) := by decide +kernel
theorem dL_types_94 : decode cL_types 94 = .ok (.iconst 5, 1) := by decide +kernel
theorem dL_types_95 : decode cL_types 95 = .ok (.iaload, 1) := by decide +kernel
theorem dL_types_96 : decode cL_types 96 = .ok (.ifCond .ne 14, 3) := by decide +kernel
theorem dL_types_99 : decode cL_types 99 = .ok (.iload 7, 2) := by decide +kernel
theorem dL_types_101 : decode cL_types 101 = .ok (.bipush 10, 2) := by decide +kernel
theorem dL_types_103 : decode cL_types 103 = .ok (.if_icmp .ge 7, 3) := by decide +kernel
theorem dL_types_106 : decode cL_types 106 = .ok (.iconst 1, 1) := by decide +kernel
theorem dL_types_107 : decode cL_types 107 = .ok (.goto 4, 3) := by decide +kernel
theorem dL_types_110 : decode cL_types 110 = .ok (.iconst 0, 1) := by decide +kernel
theorem dL_types_111 : decode cL_types 111 = .ok (.istore 6, 2) := by decide +kernel
theorem dL_types_113 : decode cL_types 113 = .ok (.iload 6, 2) := by decide +kernel
theorem dL_types_115 : decode cL_types 115 = .ok (.ifCond .eq 16, 3) := by decide +kernel
theorem dL_types_118 : decode cL_types 118 = .ok (.bipush 48, 2) := by decide +kernel
theorem dL_types_120 : decode cL_types 120 = .ok (.iload 7, 2) := by decide +kernel
theorem dL_types_122 : decode cL_types 122 = .ok (.iconst 1, 1) := by decide +kernel
theorem dL_types_123 : decode cL_types 123 = .ok (.iadd, 1) := by decide +kernel
theorem dL_types_124 : decode cL_types 124 = .ok (.bipush 10, 2) := by decide +kernel
theorem dL_types_126 : decode cL_types 126 = .ok (.irem, 1) := by decide +kernel
theorem dL_types_127 : decode cL_types 127 = .ok (.iadd, 1) := by decide +kernel
theorem dL_types_128 : decode cL_types 128 = .ok (.goto 20, 3) := by decide +kernel
theorem dL_types_131 : decode cL_types 131 = .ok (.iload 7, 2) := by decide +kernel
theorem dL_types_133 : decode cL_types 133 = .ok (.aload_n 0, 1) := by decide +kernel
theorem dL_types_134 : decode cL_types 134 = .ok (.iconst 5, 1) := by decide +kernel
theorem dL_types_135 : decode cL_types 135 = .ok (.iaload, 1) := by decide +kernel
theorem dL_types_136 : decode cL_types 136 = .ok (.iconst 1, 1) := by decide +kernel
theorem dL_types_137 : decode cL_types 137 = .ok (.if_icmp .ne 8, 3) := by decide +kernel
theorem dL_types_140 : decode cL_types 140 = .ok (.bipush 65, 2) := by decide +kernel
theorem dL_types_142 : decode cL_types 142 = .ok (.goto 5, 3) := by decide +kernel
theorem dL_types_145 : decode cL_types 145 = .ok (.bipush 97, 2) := by decide +kernel
theorem dL_types_147 : decode cL_types 147 = .ok (.iadd, 1) := by decide +kernel
theorem dL_types_148 : decode cL_types 148 = .ok (.istore 5, 2) := by decide +kernel
theorem dL_types_150 : decode cL_types 150 = .ok (.iinc 7 1, 3) := by decide +kernel
theorem dL_types_153 : decode cL_types 153 = .ok (.goto (-84), 3) := by decide +kernel
theorem dL_types_156 : decode cL_types 156 = .ok (.iload 5, 2) := by decide +kernel
theorem dL_types_158 : decode cL_types 158 = .ok (.ifCond .le 107, 3) := by decide +kernel
theorem dL_types_161 : decode cL_types 161 = .ok (.aload_n 2, 1) := by decide +kernel
theorem dL_types_162 : decode cL_types 162 = .ok (.iload 4, 2) := by decide +kernel
theorem dL_types_164 : decode cL_types 164 = .ok (.iaload, 1) := by decide +kernel
theorem dL_types_165 : decode cL_types 165 = .ok (.bipush 12, 2) := by decide +kernel
theorem dL_types_167 : decode cL_types 167 = .ok (.if_icmp .ge 98, 3) := by decide +kernel
theorem dL_types_170 : decode cL_types 170 = .ok (.aload_n 1, 1) := by decide +kernel
theorem dL_types_171 : decode cL_types 171 = .ok (.iconst 2, 1) := by decide +kernel
theorem dL_types_172 : decode cL_types 172 = .ok (.iload 4, 2) := by decide +kernel
theorem dL_types_174 : decode cL_types 174 = .ok (.imul, 1) := by decide +kernel
theorem dL_types_175 : decode cL_types 175 = .ok (.aload_n 2, 1) := by decide +kernel
theorem dL_types_176 : decode cL_types 176 = .ok (.iload 4, 2) := by decide +kernel
theorem dL_types_178 : decode cL_types 178 = .ok (.iaload, 1) := by decide +kernel
theorem dL_types_179 : decode cL_types 179 = .ok (.bipush 6, 2) := by decide +kernel
theorem dL_types_181 : decode cL_types 181 = .ok (.idiv, 1) := by decide +kernel
theorem dL_types_182 : decode cL_types 182 = .ok (.iadd, 1) := by decide +kernel
theorem dL_types_183 : decode cL_types 183 = .ok (.dup2, 1) := by decide +kernel
theorem dL_types_184 : decode cL_types 184 = .ok (.laload, 1) := by decide +kernel
theorem dL_types_185 : decode cL_types 185 = .ok (.iload 5, 2) := by decide +kernel
theorem dL_types_187 : decode cL_types 187 = .ok (.i2l, 1) := by decide +kernel
theorem dL_types_188 : decode cL_types 188 = .ok (.bipush 7, 2) := by decide +kernel
theorem dL_types_190 : decode cL_types 190 = .ok (.aload_n 2, 1) := by decide +kernel
theorem dL_types_191 : decode cL_types 191 = .ok (.iload 4, 2) := by decide +kernel
theorem dL_types_193 : decode cL_types 193 = .ok (.iaload, 1) := by decide +kernel
theorem dL_types_194 : decode cL_types 194 = .ok (.bipush 6, 2) := by decide +kernel
theorem dL_types_196 : decode cL_types 196 = .ok (.irem, 1) := by decide +kernel
theorem dL_types_197 : decode cL_types 197 = .ok (.imul, 1) := by decide +kernel
theorem dL_types_198 : decode cL_types 198 = .ok (.lshl, 1) := by decide +kernel
theorem dL_types_199 : decode cL_types 199 = .ok (.lor, 1) := by decide +kernel
theorem dL_types_200 : decode cL_types 200 = .ok (.lastore, 1) := by decide +kernel
theorem dL_types_201 : decode cL_types 201 = .ok (.aload_n 2, 1) := by decide +kernel
theorem dL_types_202 : decode cL_types 202 = .ok (.iload 4, 2) := by decide +kernel
theorem dL_types_204 : decode cL_types 204 = .ok (.dup2, 1) := by decide +kernel
theorem dL_types_205 : decode cL_types 205 = .ok (.iaload, 1) := by decide +kernel
theorem dL_types_206 : decode cL_types 206 = .ok (.iconst 1, 1) := by decide +kernel
theorem dL_types_207 : decode cL_types 207 = .ok (.iadd, 1) := by decide +kernel
theorem dL_types_208 : decode cL_types 208 = .ok (.iastore, 1) := by decide +kernel
theorem dL_types_209 : decode cL_types 209 = .ok (.iload 5, 2) := by decide +kernel
theorem dL_types_211 : decode cL_types 211 = .ok (.bipush 63, 2) := by decide +kernel
theorem dL_types_213 : decode cL_types 213 = .ok (.if_icmp .le 7, 3) := by decide +kernel
theorem dL_types_216 : decode cL_types 216 = .ok (.iconst 1, 1) := by decide +kernel
theorem dL_types_217 : decode cL_types 217 = .ok (.goto 4, 3) := by decide +kernel
theorem dL_types_220 : decode cL_types 220 = .ok (.iconst 0, 1) := by decide +kernel
theorem dL_types_221 : decode cL_types 221 = .ok (.istore 7, 2) := by decide +kernel
theorem dL_types_223 : decode cL_types 223 = .ok (.aload_n 0, 1) := by decide +kernel
theorem dL_types_224 : decode cL_types 224 = .ok (.iconst 5, 1) := by decide +kernel
theorem dL_types_225 : decode cL_types 225 = .ok (.iload 7, 2) := by decide +kernel
theorem dL_types_227 : decode cL_types 227 = .ok (.ifCond .eq 7, 3) := by decide +kernel
theorem dL_types_230 : decode cL_types 230 = .ok (.iconst 0, 1) := by decide +kernel
theorem dL_types_231 : decode cL_types 231 = .ok (.goto 6, 3) := by decide +kernel
theorem dL_types_234 : decode cL_types 234 = .ok (.aload_n 0, 1) := by decide +kernel
theorem dL_types_235 : decode cL_types 235 = .ok (.iconst 5, 1) := by decide +kernel
theorem dL_types_236 : decode cL_types 236 = .ok (.iaload, 1) := by decide +kernel
theorem dL_types_237 : decode cL_types 237 = .ok (.iastore, 1) := by decide +kernel
theorem dL_types_238 : decode cL_types 238 = .ok (.aload_n 0, 1) := by decide +kernel
theorem dL_types_239 : decode cL_types 239 = .ok (.bipush 6, 2) := by decide +kernel
theorem dL_types_241 : decode cL_types 241 = .ok (.iload 7, 2) := by decide +kernel
theorem dL_types_243 : decode cL_types 243 = .ok (.ifCond .ne 10, 3) := by decide +kernel
theorem dL_types_246 : decode cL_types 246 = .ok (.iload_n 3, 1) := by decide +kernel
theorem dL_types_247 : decode cL_types 247 = .ok (.sipush 256, 3) := by decide +kernel
theorem dL_types_250 : decode cL_types 250 = .ok (.if_icmp .ne 7, 3) := by decide +kernel
theorem dL_types_253 : decode cL_types 253 = .ok (.iconst 0, 1) := by decide +kernel
theorem dL_types_254 : decode cL_types 254 = .ok (.goto 7, 3) := by decide +kernel
theorem dL_types_257 : decode cL_types 257 = .ok (.aload_n 0, 1) := by decide +kernel
theorem dL_types_258 : decode cL_types 258 = .ok (.bipush 6, 2) := by decide +kernel
theorem dL_types_260 : decode cL_types 260 = .ok (.iaload, 1) := by decide +kernel
theorem dL_types_261 : decode cL_types 261 = .ok (.iastore, 1) := by decide +kernel
theorem dL_types_262 : decode cL_types 262 = .ok (.goto 116, 3) := by decide +kernel
theorem dL_types_265 : decode cL_types 265 = .ok (.iload_n 3, 1) := by decide +kernel
theorem dL_types_266 : decode cL_types 266 = .ok (.bipush 32, 2) := by decide +kernel
theorem dL_types_268 : decode cL_types 268 = .ok (.if_icmp .ne 10, 3) := by decide +kernel
theorem dL_types_271 : decode cL_types 271 = .ok (.aload_n 0, 1) := by decide +kernel
theorem dL_types_272 : decode cL_types 272 = .ok (.iconst 5, 1) := by decide +kernel
theorem dL_types_273 : decode cL_types 273 = .ok (.iconst 1, 1) := by decide +kernel
theorem dL_types_274 : decode cL_types 274 = .ok (.iastore, 1) := by decide +kernel
theorem dL_types_275 : decode cL_types 275 = .ok (.goto 103, 3) := by decide +kernel
theorem dL_types_278 : decode cL_types 278 = .ok (.iload_n 3, 1) := by decide +kernel
theorem dL_types_279 : decode cL_types 279 = .ok (.bipush 60, 2) := by decide +kernel
theorem dL_types_281 : decode cL_types 281 = .ok (.if_icmp .eq 9, 3) := by decide +kernel
theorem dL_types_284 : decode cL_types 284 = .ok (.iload_n 3, 1) := by decide +kernel
theorem dL_types_285 : decode cL_types 285 = .ok (.bipush 48, 2) := by decide +kernel
theorem dL_types_287 : decode cL_types 287 = .ok (.if_icmp .ne 21, 3) := by decide +kernel
theorem dL_types_290 : decode cL_types 290 = .ok (.aload_n 0, 1) := by decide +kernel
theorem dL_types_291 : decode cL_types 291 = .ok (.bipush 6, 2) := by decide +kernel
theorem dL_types_293 : decode cL_types 293 = .ok (.iload_n 3, 1) := by decide +kernel
theorem dL_types_294 : decode cL_types 294 = .ok (.bipush 60, 2) := by decide +kernel
theorem dL_types_296 : decode cL_types 296 = .ok (.if_icmp .ne 7, 3) := by decide +kernel
theorem dL_types_299 : decode cL_types 299 = .ok (.iconst 1, 1) := by decide +kernel
theorem dL_types_300 : decode cL_types 300 = .ok (.goto 4, 3) := by decide +kernel
theorem dL_types_303 : decode cL_types 303 = .ok (.iconst 0, 1) := by decide +kernel
theorem dL_types_304 : decode cL_types 304 = .ok (.iastore, 1) := by decide +kernel
theorem dL_types_305 : decode cL_types 305 = .ok (.goto 73, 3) := by decide +kernel
theorem dL_types_308 : decode cL_types 308 = .ok (.iload_n 3, 1) := by decide +kernel
theorem dL_types_309 : decode cL_types 309 = .ok (.bipush 64, 2) := by decide +kernel
theorem dL_types_311 : decode cL_types 311 = .ok (.if_icmp .ne 56, 3) := by decide +kernel
theorem dL_types_314 : decode cL_types 314 = .ok (.aload_n 2, 1) := by decide +kernel
theorem dL_types_315 : decode cL_types 315 = .ok (.iload 4, 2) := by decide +kernel
theorem dL_types_317 : decode cL_types 317 = .ok (.iaload, 1) := by decide +kernel
theorem dL_types_318 : decode cL_types 318 = .ok (.ifCond .le 49, 3) := by decide +kernel
theorem dL_types_321 : decode cL_types 321 = .ok (.aload_n 2, 1) := by decide +kernel
theorem dL_types_322 : decode cL_types 322 = .ok (.iload 4, 2) := by decide +kernel
theorem dL_types_324 : decode cL_types 324 = .ok (.dup2, 1) := by decide +kernel
theorem dL_types_325 : decode cL_types 325 = .ok (.iaload, 1) := by decide +kernel
theorem dL_types_326 : decode cL_types 326 = .ok (.iconst 1, 1) := by decide +kernel
theorem dL_types_327 : decode cL_types 327 = .ok (.isub, 1) := by decide +kernel
theorem dL_types_328 : decode cL_types 328 = .ok (.iastore, 1) := by decide +kernel
theorem dL_types_329 : decode cL_types 329 = .ok (.aload_n 1, 1) := by decide +kernel
theorem dL_types_330 : decode cL_types 330 = .ok (.iconst 2, 1) := by decide +kernel
theorem dL_types_331 : decode cL_types 331 = .ok (.iload 4, 2) := by decide +kernel
theorem dL_types_333 : decode cL_types 333 = .ok (.imul, 1) := by decide +kernel
theorem dL_types_334 : decode cL_types 334 = .ok (.aload_n 2, 1) := by decide +kernel
theorem dL_types_335 : decode cL_types 335 = .ok (.iload 4, 2) := by decide +kernel
theorem dL_types_337 : decode cL_types 337 = .ok (.iaload, 1) := by decide +kernel
theorem dL_types_338 : decode cL_types 338 = .ok (.bipush 6, 2) := by decide +kernel
theorem dL_types_340 : decode cL_types 340 = .ok (.idiv, 1) := by decide +kernel
theorem dL_types_341 : decode cL_types 341 = .ok (.iadd, 1) := by decide +kernel
theorem dL_types_342 : decode cL_types 342 = .ok (.dup2, 1) := by decide +kernel
theorem dL_types_343 : decode cL_types 343 = .ok (.laload, 1) := by decide +kernel
theorem dL_types_344 : decode cL_types 344 = .ok (.ldc2_w 28, 3) := by decide +kernel
theorem dL_types_347 : decode cL_types 347 = .ok (.bipush 7, 2) := by decide +kernel
theorem dL_types_349 : decode cL_types 349 = .ok (.aload_n 2, 1) := by decide +kernel
theorem dL_types_350 : decode cL_types 350 = .ok (.iload 4, 2) := by decide +kernel
theorem dL_types_352 : decode cL_types 352 = .ok (.iaload, 1) := by decide +kernel
theorem dL_types_353 : decode cL_types 353 = .ok (.bipush 6, 2) := by decide +kernel
theorem dL_types_355 : decode cL_types 355 = .ok (.irem, 1) := by decide +kernel
theorem dL_types_356 : decode cL_types 356 = .ok (.imul, 1) := by decide +kernel
theorem dL_types_357 : decode cL_types 357 = .ok (.lshl, 1) := by decide +kernel
theorem dL_types_358 : decode cL_types 358 = .ok (.ldc2_w 91, 3) := by decide +kernel
theorem dL_types_361 : decode cL_types 361 = .ok (.lxor, 1) := by decide +kernel
theorem dL_types_362 : decode cL_types 362 = .ok (.land, 1) := by decide +kernel
theorem dL_types_363 : decode cL_types 363 = .ok (.lastore, 1) := by decide +kernel
theorem dL_types_364 : decode cL_types 364 = .ok (.goto 14, 3) := by decide +kernel
theorem dL_types_367 : decode cL_types 367 = .ok (.iload_n 3, 1) := by decide +kernel
theorem dL_types_368 : decode cL_types 368 = .ok (.sipush 128, 3) := by decide +kernel
theorem dL_types_371 : decode cL_types 371 = .ok (.if_icmp .ne 7, 3) := by decide +kernel
theorem dL_types_374 : decode cL_types 374 = .ok (.aload_n 0, 1) := by decide +kernel
theorem dL_types_375 : decode cL_types 375 = .ok (.iconst 4, 1) := by decide +kernel
theorem dL_types_376 : decode cL_types 376 = .ok (.iconst 0, 1) := by decide +kernel
theorem dL_types_377 : decode cL_types 377 = .ok (.iastore, 1) := by decide +kernel
theorem dL_types_378 : decode cL_types 378 = .ok (.return_, 1) := by decide +kernel
abbrev mL_types : gM := (yL_types, cL_types, 8, (Option.none : Option FieldType), [])
theorem caL_types : cal mL_types 4 := ⟨xw 941 (by decide +kernel) rfl, xw 28 (by decide +kernel) rfl, by decide, by decide +kernel⟩
theorem csL_types : Cond.static yL_types ∈ XW := xw 940 (by decide +kernel) rfl
theorem clL_91 : Cond.constantLong RL 91 (-1 : Int64) ∈ XW := xw 942 (by decide +kernel) rfl
/-! BrailleDeskLaw.types -/
theorem lL_types_69 {G : gG} {Q : hQ} {P : Int32 → Prop} {k n : Nat} (c0 : (Option Nat)) (c1 : (Option Nat)) (c2 : (Option Nat)) (c3 : Int32) (c4 : Int32) (h : hp) (hJ : ∀ q : Int32, P q → gV G mL_types 1 Q 156 [some (sr c0), some (sr c1), some (sr c2), some (si c3), some (si c4), some (si q), none, none] [] (k) (n) h) : ∀ (fu : Nat) (a : (Int32 × Int32)), okB (itr (fL_types_B69 c0 c1 c2 c3 c4 h) fu a) P → gV G mL_types 1 Q 69 [some (sr c0), some (sr c1), some (sr c2), some (si c3), some (si c4), some (si a.1), none, some (si a.2)] [] (k) (n) h :=
  lpg (X := fun (a : (Int32 × Int32)) => gV G mL_types 1 Q 69 [some (sr c0), some (sr c1), some (sr c2), some (si c3), some (si c4), some (si a.1), none, some (si a.2)] [] (k) (n) h) (fun a P2 hL hE hF => by
    delta fL_types_B69 at hF
    refine v_iload (pc := 69) (i := 7) dL_types_69 rfl ?_
    refine v_bipush (pc := 71) (v := (26 : Int32)) dL_types_71 rfl ?_
    refine v_icmp_ge (pc := 73) 156 dL_types_73 rfl (fun hc => ?_) (fun hc => ?_)
    · replace hF := (okB_if hF).1 hc
      exact v_lle [some (sr c0), some (sr c1), some (sr c2), some (si c3), some (si c4), some (si a.1), none, none] ⟨rfl, rfl, rfl, rfl, rfl, rfl, trivial⟩ (hJ a.1 (hE _ (okB_some hF)))
    replace hF := (okB_if hF).2 hc
    refine v_iload (pc := 76) (i := 7) dL_types_76 rfl ?_
    refine cp_S (pc := 78) gI (as := [si a.2]) (st := []) (N := mL_points) (k := k) (n := n) (k1 := 0) (n1 := 0) dL_types_78 lkL_59 caL_points csL_points rfl (fun Q1 hq => tL_points a.2 h Q1 hq) ⟨by decide, by decide⟩ (Nat.le_of_ble_eq_true rfl) rfl hF (fun x1 hF => ?_)
    show gV G mL_types 1 Q 81 [some (sr c0), some (sr c1), some (sr c2), some (si c3), some (si c4), some (si a.1), none, some (si a.2)] [si x1] (k) (n) h
    refine v_iload_n (pc := 81) (i := 3) dL_types_81 rfl rfl ?_
    refine v_icmp_ne (pc := 82) 150 dL_types_82 rfl (fun hc => ?_) (fun hc => ?_)
    · replace hF := (okB_if hF).2 hc
      refine v_iinc (pc := 150) (i := 7) (a.2 + (1 : Int32)) [some (sr c0), some (sr c1), some (sr c2), some (si c3), some (si c4), some (si a.1), none, some (si (a.2 + (1 : Int32)))] dL_types_150 rfl rfl rfl rfl ?_
      refine v_goto (pc := 153) 69 dL_types_153 rfl ?_
      exact v_lle [some (sr c0), some (sr c1), some (sr c2), some (si c3), some (si c4), some (si a.1), none, some (si (a.2 + (1 : Int32)))] ⟨rfl, rfl, rfl, rfl, rfl, rfl, rfl, trivial⟩ (hL (a.1, a.2 + (1 : Int32)) (okB_some hF))
    replace hF := (okB_if hF).1 hc
    refine v_aload_n (pc := 85) (i := 0) dL_types_85 rfl rfl ?_
    refine v_bipush (pc := 86) (v := (6 : Int32)) dL_types_86 rfl ?_
    refine s_iald (pc := 88) dL_types_88 hF (fun x2 hF => ?_)
    refine v_iconst (pc := 89) (v := (1 : Int32)) dL_types_89 rfl ?_
    refine mg (X := fun q3 => gV G mL_types 1 Q 111 [some (sr c0), some (sr c1), some (sr c2), some (si c3), some (si c4), none, none, some (si a.2)] [si q3] (k) (n) h) hF (fun _ hj4 hF => ?_) (fun q3 hF => ?_)
    · refine v_icmp_ne (pc := 90) 110 dL_types_90 rfl (fun hc => ?_) (fun hc => ?_)
      · replace hF := (okB_if hF).2 hc
        refine v_iconst (pc := 110) (v := (0 : Int32)) dL_types_110 rfl ?_
        exact v_lle [some (sr c0), some (sr c1), some (sr c2), some (si c3), some (si c4), none, none, some (si a.2)] ⟨rfl, rfl, rfl, rfl, rfl, rfl, trivial⟩ (hj4 (0 : Int32) (okB_some hF))
      replace hF := (okB_if hF).1 hc
      refine v_aload_n (pc := 93) (i := 0) dL_types_93 rfl rfl ?_
      refine v_iconst (pc := 94) (v := (5 : Int32)) dL_types_94 rfl ?_
      refine s_iald (pc := 95) dL_types_95 hF (fun x5 hF => ?_)
      refine v_if_ne (pc := 96) 110 dL_types_96 rfl (fun hc => ?_) (fun hc => ?_)
      · replace hF := (okB_if hF).2 hc
        refine v_iconst (pc := 110) (v := (0 : Int32)) dL_types_110 rfl ?_
        exact v_lle [some (sr c0), some (sr c1), some (sr c2), some (si c3), some (si c4), none, none, some (si a.2)] ⟨rfl, rfl, rfl, rfl, rfl, rfl, trivial⟩ (hj4 (0 : Int32) (okB_some hF))
      replace hF := (okB_if hF).1 hc
      refine v_iload (pc := 99) (i := 7) dL_types_99 rfl ?_
      refine v_bipush (pc := 101) (v := (10 : Int32)) dL_types_101 rfl ?_
      refine v_icmp_ge (pc := 103) 110 dL_types_103 rfl (fun hc => ?_) (fun hc => ?_)
      · replace hF := (okB_if hF).1 hc
        refine v_iconst (pc := 110) (v := (0 : Int32)) dL_types_110 rfl ?_
        exact v_lle [some (sr c0), some (sr c1), some (sr c2), some (si c3), some (si c4), none, none, some (si a.2)] ⟨rfl, rfl, rfl, rfl, rfl, rfl, trivial⟩ (hj4 (0 : Int32) (okB_some hF))
      replace hF := (okB_if hF).2 hc
      refine v_iconst (pc := 106) (v := (1 : Int32)) dL_types_106 rfl ?_
      refine v_goto (pc := 107) 111 dL_types_107 rfl ?_
      exact v_lle [some (sr c0), some (sr c1), some (sr c2), some (si c3), some (si c4), none, none, some (si a.2)] ⟨rfl, rfl, rfl, rfl, rfl, rfl, trivial⟩ (hj4 (1 : Int32) (okB_some hF))
    refine v_istore (pc := 111) (i := 6) [some (sr c0), some (sr c1), some (sr c2), some (si c3), some (si c4), none, some (si q3), some (si a.2)] dL_types_111 (by decide) rfl rfl ?_
    refine v_iload (pc := 113) (i := 6) dL_types_113 rfl ?_
    refine v_if_eq (pc := 115) 131 dL_types_115 rfl (fun hc => ?_) (fun hc => ?_)
    · replace hF := (okB_if hF).1 hc
      refine v_iload (pc := 131) (i := 7) dL_types_131 rfl ?_
      refine v_aload_n (pc := 133) (i := 0) dL_types_133 rfl rfl ?_
      refine v_iconst (pc := 134) (v := (5 : Int32)) dL_types_134 rfl ?_
      refine s_iald (pc := 135) dL_types_135 hF (fun x6 hF => ?_)
      refine v_iconst (pc := 136) (v := (1 : Int32)) dL_types_136 rfl ?_
      refine v_icmp_ne (pc := 137) 145 dL_types_137 rfl (fun hc => ?_) (fun hc => ?_)
      · replace hF := (okB_if hF).2 hc
        refine v_bipush (pc := 145) (v := (97 : Int32)) dL_types_145 rfl ?_
        refine v_iadd (pc := 147) dL_types_147 ?_
        refine v_istore (pc := 148) (i := 5) [some (sr c0), some (sr c1), some (sr c2), some (si c3), some (si c4), some (si (a.2 + (97 : Int32))), some (si q3), some (si a.2)] dL_types_148 (by decide) rfl rfl ?_
        refine v_iinc (pc := 150) (i := 7) (a.2 + (1 : Int32)) [some (sr c0), some (sr c1), some (sr c2), some (si c3), some (si c4), some (si (a.2 + (97 : Int32))), some (si q3), some (si (a.2 + (1 : Int32)))] dL_types_150 rfl rfl rfl rfl ?_
        refine v_goto (pc := 153) 69 dL_types_153 rfl ?_
        exact v_lle [some (sr c0), some (sr c1), some (sr c2), some (si c3), some (si c4), some (si (a.2 + (97 : Int32))), none, some (si (a.2 + (1 : Int32)))] ⟨rfl, rfl, rfl, rfl, rfl, rfl, rfl, trivial⟩ (hL (a.2 + (97 : Int32), a.2 + (1 : Int32)) (okB_some hF))
      replace hF := (okB_if hF).1 hc
      refine v_bipush (pc := 140) (v := (65 : Int32)) dL_types_140 rfl ?_
      refine v_goto (pc := 142) 147 dL_types_142 rfl ?_
      refine v_iadd (pc := 147) dL_types_147 ?_
      refine v_istore (pc := 148) (i := 5) [some (sr c0), some (sr c1), some (sr c2), some (si c3), some (si c4), some (si (a.2 + (65 : Int32))), some (si q3), some (si a.2)] dL_types_148 (by decide) rfl rfl ?_
      refine v_iinc (pc := 150) (i := 7) (a.2 + (1 : Int32)) [some (sr c0), some (sr c1), some (sr c2), some (si c3), some (si c4), some (si (a.2 + (65 : Int32))), some (si q3), some (si (a.2 + (1 : Int32)))] dL_types_150 rfl rfl rfl rfl ?_
      refine v_goto (pc := 153) 69 dL_types_153 rfl ?_
      exact v_lle [some (sr c0), some (sr c1), some (sr c2), some (si c3), some (si c4), some (si (a.2 + (65 : Int32))), none, some (si (a.2 + (1 : Int32)))] ⟨rfl, rfl, rfl, rfl, rfl, rfl, rfl, trivial⟩ (hL (a.2 + (65 : Int32), a.2 + (1 : Int32)) (okB_some hF))
    replace hF := (okB_if hF).2 hc
    refine v_bipush (pc := 118) (v := (48 : Int32)) dL_types_118 rfl ?_
    refine v_iload (pc := 120) (i := 7) dL_types_120 rfl ?_
    refine v_iconst (pc := 122) (v := (1 : Int32)) dL_types_122 rfl ?_
    refine v_iadd (pc := 123) dL_types_123 ?_
    refine v_bipush (pc := 124) (v := (10 : Int32)) dL_types_124 rfl ?_
    refine s_irem (pc := 126) dL_types_126 hF (fun hF => ?_)
    refine v_iadd (pc := 127) dL_types_127 ?_
    refine v_goto (pc := 128) 148 dL_types_128 rfl ?_
    refine v_istore (pc := 148) (i := 5) [some (sr c0), some (sr c1), some (sr c2), some (si c3), some (si c4), some (si ((48 : Int32) + ((a.2 + (1 : Int32)) - (a.2 + (1 : Int32)) / (10 : Int32) * (10 : Int32)))), some (si q3), some (si a.2)] dL_types_148 (by decide) rfl rfl ?_
    refine v_iinc (pc := 150) (i := 7) (a.2 + (1 : Int32)) [some (sr c0), some (sr c1), some (sr c2), some (si c3), some (si c4), some (si ((48 : Int32) + ((a.2 + (1 : Int32)) - (a.2 + (1 : Int32)) / (10 : Int32) * (10 : Int32)))), some (si q3), some (si (a.2 + (1 : Int32)))] dL_types_150 rfl rfl rfl rfl ?_
    refine v_goto (pc := 153) 69 dL_types_153 rfl ?_
    exact v_lle [some (sr c0), some (sr c1), some (sr c2), some (si c3), some (si c4), some (si ((48 : Int32) + ((a.2 + (1 : Int32)) - (a.2 + (1 : Int32)) / (10 : Int32) * (10 : Int32)))), none, some (si (a.2 + (1 : Int32)))] ⟨rfl, rfl, rfl, rfl, rfl, rfl, rfl, trivial⟩ (hL ((48 : Int32) + ((a.2 + (1 : Int32)) - (a.2 + (1 : Int32)) / (10 : Int32) * (10 : Int32)), a.2 + (1 : Int32)) (okB_some hF)))
theorem tL_types {G : gG} (a0 : (Option Nat)) (a1 : (Option Nat)) (a2 : (Option Nat)) (a3 : Int32) (h : hp) (Q : hQ) (hF : okB (fL_types a0 a1 a2 a3 h) (pH gU Q)) : gS G mL_types 1 0 0 [sr a0, sr a1, sr a2, si a3] h Q := by
  delta fL_types at hF
  refine gS_at [some (sr a0), some (sr a1), some (sr a2), some (si a3), none, none, none, none] pl_L rfl (Nat.le_of_ble_eq_true rfl) rfl ?_
  refine v_aload_n (pc := 0) (i := 0) dL_types_0 rfl rfl ?_
  refine v_iconst (pc := 1) (v := (1 : Int32)) dL_types_1 rfl ?_
  refine s_iald (pc := 2) dL_types_2 hF (fun x1 hF => ?_)
  refine v_istore (pc := 3) (i := 4) [some (sr a0), some (sr a1), some (sr a2), some (si a3), some (si x1), none, none, none] dL_types_3 (by decide) rfl rfl ?_
  refine v_iload_n (pc := 5) (i := 3) dL_types_5 rfl rfl ?_
  refine v_bipush (pc := 6) (v := (50 : Int32)) dL_types_6 rfl ?_
  refine mg (X := fun q2 => gV G mL_types 1 Q 61 [some (sr a0), some (sr a1), some (sr a2), some (si a3), some (si x1), none, none, none] [si q2] (0) (0) h) hF (fun _ hj3 hF => ?_) (fun q2 hF => ?_)
  · refine v_icmp_ne (pc := 8) 16 dL_types_8 rfl (fun hc => ?_) (fun hc => ?_)
    · replace hF := (okB_if hF).2 hc
      refine v_iload_n (pc := 16) (i := 3) dL_types_16 rfl rfl ?_
      refine v_iconst (pc := 17) (v := (2 : Int32)) dL_types_17 rfl ?_
      refine v_icmp_ne (pc := 18) 26 dL_types_18 rfl (fun hc => ?_) (fun hc => ?_)
      · replace hF := (okB_if hF).2 hc
        refine v_iload_n (pc := 26) (i := 3) dL_types_26 rfl rfl ?_
        refine v_bipush (pc := 27) (v := (38 : Int32)) dL_types_27 rfl ?_
        refine v_icmp_ne (pc := 29) 37 dL_types_29 rfl (fun hc => ?_) (fun hc => ?_)
        · replace hF := (okB_if hF).2 hc
          refine v_iload_n (pc := 37) (i := 3) dL_types_37 rfl rfl ?_
          refine v_bipush (pc := 38) (v := (36 : Int32)) dL_types_38 rfl ?_
          refine v_icmp_ne (pc := 40) 48 dL_types_40 rfl (fun hc => ?_) (fun hc => ?_)
          · replace hF := (okB_if hF).2 hc
            refine v_iload_n (pc := 48) (i := 3) dL_types_48 rfl rfl ?_
            refine v_sipush (pc := 49) (v := (256 : Int32)) dL_types_49 rfl ?_
            refine v_icmp_ne (pc := 52) 60 dL_types_52 rfl (fun hc => ?_) (fun hc => ?_)
            · replace hF := (okB_if hF).2 hc
              refine v_iconst (pc := 60) (v := (0 : Int32)) dL_types_60 rfl ?_
              exact v_lle [some (sr a0), some (sr a1), some (sr a2), some (si a3), some (si x1), none, none, none] ⟨rfl, rfl, rfl, rfl, rfl, trivial⟩ (hj3 (0 : Int32) (okB_some hF))
            replace hF := (okB_if hF).1 hc
            refine v_bipush (pc := 55) (v := (32 : Int32)) dL_types_55 rfl ?_
            refine v_goto (pc := 57) 61 dL_types_57 rfl ?_
            exact v_lle [some (sr a0), some (sr a1), some (sr a2), some (si a3), some (si x1), none, none, none] ⟨rfl, rfl, rfl, rfl, rfl, trivial⟩ (hj3 (32 : Int32) (okB_some hF))
          replace hF := (okB_if hF).1 hc
          refine v_bipush (pc := 43) (v := (45 : Int32)) dL_types_43 rfl ?_
          refine v_goto (pc := 45) 61 dL_types_45 rfl ?_
          exact v_lle [some (sr a0), some (sr a1), some (sr a2), some (si a3), some (si x1), none, none, none] ⟨rfl, rfl, rfl, rfl, rfl, trivial⟩ (hj3 (45 : Int32) (okB_some hF))
        replace hF := (okB_if hF).1 hc
        refine v_bipush (pc := 32) (v := (63 : Int32)) dL_types_32 rfl ?_
        refine v_goto (pc := 34) 61 dL_types_34 rfl ?_
        exact v_lle [some (sr a0), some (sr a1), some (sr a2), some (si a3), some (si x1), none, none, none] ⟨rfl, rfl, rfl, rfl, rfl, trivial⟩ (hj3 (63 : Int32) (okB_some hF))
      replace hF := (okB_if hF).1 hc
      refine v_bipush (pc := 21) (v := (44 : Int32)) dL_types_21 rfl ?_
      refine v_goto (pc := 23) 61 dL_types_23 rfl ?_
      exact v_lle [some (sr a0), some (sr a1), some (sr a2), some (si a3), some (si x1), none, none, none] ⟨rfl, rfl, rfl, rfl, rfl, trivial⟩ (hj3 (44 : Int32) (okB_some hF))
    replace hF := (okB_if hF).1 hc
    refine v_bipush (pc := 11) (v := (46 : Int32)) dL_types_11 rfl ?_
    refine v_goto (pc := 13) 61 dL_types_13 rfl ?_
    exact v_lle [some (sr a0), some (sr a1), some (sr a2), some (si a3), some (si x1), none, none, none] ⟨rfl, rfl, rfl, rfl, rfl, trivial⟩ (hj3 (46 : Int32) (okB_some hF))
  refine v_istore (pc := 61) (i := 5) [some (sr a0), some (sr a1), some (sr a2), some (si a3), some (si x1), some (si q2), none, none] dL_types_61 (by decide) rfl rfl ?_
  refine v_iconst (pc := 63) (v := (0 : Int32)) dL_types_63 rfl ?_
  refine v_istore (pc := 64) (i := 6) [some (sr a0), some (sr a1), some (sr a2), some (si a3), some (si x1), some (si q2), some (si (0 : Int32)), none] dL_types_64 (by decide) rfl rfl ?_
  refine v_iconst (pc := 66) (v := (0 : Int32)) dL_types_66 rfl ?_
  refine v_istore (pc := 67) (i := 7) [some (sr a0), some (sr a1), some (sr a2), some (si a3), some (si x1), some (si q2), some (si (0 : Int32)), some (si (0 : Int32))] dL_types_67 (by decide) rfl rfl ?_
  refine mg (X := fun q4 => gV G mL_types 1 Q 156 [some (sr a0), some (sr a1), some (sr a2), some (si a3), some (si x1), some (si q4), none, none] [] (0) (0) h) hF (fun _ hj50 hF => v_lle [some (sr a0), some (sr a1), some (sr a2), some (si a3), some (si x1), some (si q2), none, some (si (0 : Int32))] ⟨rfl, rfl, rfl, rfl, rfl, rfl, rfl, trivial⟩ (lL_types_69 a0 a1 a2 a3 x1 h hj50 FU (q2, (0 : Int32)) hF)) (fun q4 hF => ?_)
  refine v_iload (pc := 156) (i := 5) dL_types_156 rfl ?_
  refine v_if_le (pc := 158) 265 dL_types_158 rfl (fun hc => ?_) (fun hc => ?_)
  · replace hF := (okB_if hF).1 hc
    refine v_iload_n (pc := 265) (i := 3) dL_types_265 rfl rfl ?_
    refine v_bipush (pc := 266) (v := (32 : Int32)) dL_types_266 rfl ?_
    refine v_icmp_ne (pc := 268) 278 dL_types_268 rfl (fun hc => ?_) (fun hc => ?_)
    · replace hF := (okB_if hF).2 hc
      refine v_iload_n (pc := 278) (i := 3) dL_types_278 rfl rfl ?_
      refine v_bipush (pc := 279) (v := (60 : Int32)) dL_types_279 rfl ?_
      refine v_icmp_eq (pc := 281) 290 dL_types_281 rfl (fun hc => ?_) (fun hc => ?_)
      · replace hF := (okB_if hF).1 hc
        refine v_aload_n (pc := 290) (i := 0) dL_types_290 rfl rfl ?_
        refine v_bipush (pc := 291) (v := (6 : Int32)) dL_types_291 rfl ?_
        refine v_iload_n (pc := 293) (i := 3) dL_types_293 rfl rfl ?_
        refine v_bipush (pc := 294) (v := (60 : Int32)) dL_types_294 rfl ?_
        refine v_icmp_ne (pc := 296) 303 dL_types_296 rfl (fun hc => ?_) (fun hc => ?_)
        · replace hF := (okB_if hF).2 hc
          refine v_iconst (pc := 303) (v := (0 : Int32)) dL_types_303 rfl ?_
          refine s_iast (pc := 304) dL_types_304 hF (fun h5 hF => ?_)
          refine v_goto (pc := 305) 378 dL_types_305 rfl ?_
          exact v_ret (pc := 378) dL_types_378 rfl (okr hF fun q => q)
        replace hF := (okB_if hF).1 hc
        refine v_iconst (pc := 299) (v := (1 : Int32)) dL_types_299 rfl ?_
        refine v_goto (pc := 300) 304 dL_types_300 rfl ?_
        refine s_iast (pc := 304) dL_types_304 hF (fun h6 hF => ?_)
        refine v_goto (pc := 305) 378 dL_types_305 rfl ?_
        exact v_ret (pc := 378) dL_types_378 rfl (okr hF fun q => q)
      replace hF := (okB_if hF).2 hc
      refine v_iload_n (pc := 284) (i := 3) dL_types_284 rfl rfl ?_
      refine v_bipush (pc := 285) (v := (48 : Int32)) dL_types_285 rfl ?_
      refine v_icmp_ne (pc := 287) 308 dL_types_287 rfl (fun hc => ?_) (fun hc => ?_)
      · replace hF := (okB_if hF).2 hc
        refine v_iload_n (pc := 308) (i := 3) dL_types_308 rfl rfl ?_
        refine v_bipush (pc := 309) (v := (64 : Int32)) dL_types_309 rfl ?_
        refine v_icmp_ne (pc := 311) 367 dL_types_311 rfl (fun hc => ?_) (fun hc => ?_)
        · replace hF := (okB_if hF).2 hc
          refine v_iload_n (pc := 367) (i := 3) dL_types_367 rfl rfl ?_
          refine v_sipush (pc := 368) (v := (128 : Int32)) dL_types_368 rfl ?_
          refine v_icmp_ne (pc := 371) 378 dL_types_371 rfl (fun hc => ?_) (fun hc => ?_)
          · replace hF := (okB_if hF).2 hc
            exact v_ret (pc := 378) dL_types_378 rfl (okr hF fun q => q)
          replace hF := (okB_if hF).1 hc
          refine v_aload_n (pc := 374) (i := 0) dL_types_374 rfl rfl ?_
          refine v_iconst (pc := 375) (v := (4 : Int32)) dL_types_375 rfl ?_
          refine v_iconst (pc := 376) (v := (0 : Int32)) dL_types_376 rfl ?_
          refine s_iast (pc := 377) dL_types_377 hF (fun h7 hF => ?_)
          exact v_ret (pc := 378) dL_types_378 rfl (okr hF fun q => q)
        replace hF := (okB_if hF).1 hc
        refine v_aload_n (pc := 314) (i := 2) dL_types_314 rfl rfl ?_
        refine v_iload (pc := 315) (i := 4) dL_types_315 rfl ?_
        refine s_iald (pc := 317) dL_types_317 hF (fun x8 hF => ?_)
        refine v_if_le (pc := 318) 367 dL_types_318 rfl (fun hc => ?_) (fun hc => ?_)
        · replace hF := (okB_if hF).1 hc
          refine v_iload_n (pc := 367) (i := 3) dL_types_367 rfl rfl ?_
          refine v_sipush (pc := 368) (v := (128 : Int32)) dL_types_368 rfl ?_
          refine v_icmp_ne (pc := 371) 378 dL_types_371 rfl (fun hc => ?_) (fun hc => ?_)
          · replace hF := (okB_if hF).2 hc
            exact v_ret (pc := 378) dL_types_378 rfl (okr hF fun q => q)
          replace hF := (okB_if hF).1 hc
          refine v_aload_n (pc := 374) (i := 0) dL_types_374 rfl rfl ?_
          refine v_iconst (pc := 375) (v := (4 : Int32)) dL_types_375 rfl ?_
          refine v_iconst (pc := 376) (v := (0 : Int32)) dL_types_376 rfl ?_
          refine s_iast (pc := 377) dL_types_377 hF (fun h9 hF => ?_)
          exact v_ret (pc := 378) dL_types_378 rfl (okr hF fun q => q)
        replace hF := (okB_if hF).2 hc
        refine v_aload_n (pc := 321) (i := 2) dL_types_321 rfl rfl ?_
        refine v_iload (pc := 322) (i := 4) dL_types_322 rfl ?_
        refine v_dup2 (pc := 324) dL_types_324 rfl rfl ?_
        refine s_iald (pc := 325) dL_types_325 hF (fun x10 hF => ?_)
        refine v_iconst (pc := 326) (v := (1 : Int32)) dL_types_326 rfl ?_
        refine v_isub (pc := 327) dL_types_327 ?_
        refine s_iast (pc := 328) dL_types_328 hF (fun h11 hF => ?_)
        refine v_aload_n (pc := 329) (i := 1) dL_types_329 rfl rfl ?_
        refine v_iconst (pc := 330) (v := (2 : Int32)) dL_types_330 rfl ?_
        refine v_iload (pc := 331) (i := 4) dL_types_331 rfl ?_
        refine v_imul (pc := 333) dL_types_333 ?_
        refine v_aload_n (pc := 334) (i := 2) dL_types_334 rfl rfl ?_
        refine v_iload (pc := 335) (i := 4) dL_types_335 rfl ?_
        refine s_iald (pc := 337) dL_types_337 hF (fun x12 hF => ?_)
        refine v_bipush (pc := 338) (v := (6 : Int32)) dL_types_338 rfl ?_
        refine s_idiv (pc := 340) dL_types_340 hF (fun hF => ?_)
        refine v_iadd (pc := 341) dL_types_341 ?_
        refine v_dup2 (pc := 342) dL_types_342 rfl rfl ?_
        refine s_lald (pc := 343) dL_types_343 hF (fun x13 hF => ?_)
        refine v_ldc2 (pc := 344) (v := (127 : Int64)) dL_types_344 clL_28 ?_
        refine v_bipush (pc := 347) (v := (7 : Int32)) dL_types_347 rfl ?_
        refine v_aload_n (pc := 349) (i := 2) dL_types_349 rfl rfl ?_
        refine v_iload (pc := 350) (i := 4) dL_types_350 rfl ?_
        refine s_iald (pc := 352) dL_types_352 hF (fun x14 hF => ?_)
        refine v_bipush (pc := 353) (v := (6 : Int32)) dL_types_353 rfl ?_
        refine s_irem (pc := 355) dL_types_355 hF (fun hF => ?_)
        refine v_imul (pc := 356) dL_types_356 ?_
        refine v_lshl (pc := 357) dL_types_357 ?_
        refine v_ldc2 (pc := 358) (v := (-1 : Int64)) dL_types_358 clL_91 ?_
        refine v_lxor (pc := 361) dL_types_361 ?_
        refine v_land (pc := 362) dL_types_362 ?_
        refine s_last (pc := 363) dL_types_363 hF (fun h15 hF => ?_)
        refine v_goto (pc := 364) 378 dL_types_364 rfl ?_
        exact v_ret (pc := 378) dL_types_378 rfl (okr hF fun q => q)
      replace hF := (okB_if hF).1 hc
      refine v_aload_n (pc := 290) (i := 0) dL_types_290 rfl rfl ?_
      refine v_bipush (pc := 291) (v := (6 : Int32)) dL_types_291 rfl ?_
      refine v_iload_n (pc := 293) (i := 3) dL_types_293 rfl rfl ?_
      refine v_bipush (pc := 294) (v := (60 : Int32)) dL_types_294 rfl ?_
      refine v_icmp_ne (pc := 296) 303 dL_types_296 rfl (fun hc => ?_) (fun hc => ?_)
      · replace hF := (okB_if hF).2 hc
        refine v_iconst (pc := 303) (v := (0 : Int32)) dL_types_303 rfl ?_
        refine s_iast (pc := 304) dL_types_304 hF (fun h16 hF => ?_)
        refine v_goto (pc := 305) 378 dL_types_305 rfl ?_
        exact v_ret (pc := 378) dL_types_378 rfl (okr hF fun q => q)
      replace hF := (okB_if hF).1 hc
      refine v_iconst (pc := 299) (v := (1 : Int32)) dL_types_299 rfl ?_
      refine v_goto (pc := 300) 304 dL_types_300 rfl ?_
      refine s_iast (pc := 304) dL_types_304 hF (fun h17 hF => ?_)
      refine v_goto (pc := 305) 378 dL_types_305 rfl ?_
      exact v_ret (pc := 378) dL_types_378 rfl (okr hF fun q => q)
    replace hF := (okB_if hF).1 hc
    refine v_aload_n (pc := 271) (i := 0) dL_types_271 rfl rfl ?_
    refine v_iconst (pc := 272) (v := (5 : Int32)) dL_types_272 rfl ?_
    refine v_iconst (pc := 273) (v := (1 : Int32)) dL_types_273 rfl ?_
    refine s_iast (pc := 274) dL_types_274 hF (fun h18 hF => ?_)
    refine v_goto (pc := 275) 378 dL_types_275 rfl ?_
    exact v_ret (pc := 378) dL_types_378 rfl (okr hF fun q => q)
  replace hF := (okB_if hF).2 hc
  refine v_aload_n (pc := 161) (i := 2) dL_types_161 rfl rfl ?_
  refine v_iload (pc := 162) (i := 4) dL_types_162 rfl ?_
  refine s_iald (pc := 164) dL_types_164 hF (fun x19 hF => ?_)
  refine v_bipush (pc := 165) (v := (12 : Int32)) dL_types_165 rfl ?_
  refine v_icmp_ge (pc := 167) 265 dL_types_167 rfl (fun hc => ?_) (fun hc => ?_)
  · replace hF := (okB_if hF).1 hc
    refine v_iload_n (pc := 265) (i := 3) dL_types_265 rfl rfl ?_
    refine v_bipush (pc := 266) (v := (32 : Int32)) dL_types_266 rfl ?_
    refine v_icmp_ne (pc := 268) 278 dL_types_268 rfl (fun hc => ?_) (fun hc => ?_)
    · replace hF := (okB_if hF).2 hc
      refine v_iload_n (pc := 278) (i := 3) dL_types_278 rfl rfl ?_
      refine v_bipush (pc := 279) (v := (60 : Int32)) dL_types_279 rfl ?_
      refine v_icmp_eq (pc := 281) 290 dL_types_281 rfl (fun hc => ?_) (fun hc => ?_)
      · replace hF := (okB_if hF).1 hc
        refine v_aload_n (pc := 290) (i := 0) dL_types_290 rfl rfl ?_
        refine v_bipush (pc := 291) (v := (6 : Int32)) dL_types_291 rfl ?_
        refine v_iload_n (pc := 293) (i := 3) dL_types_293 rfl rfl ?_
        refine v_bipush (pc := 294) (v := (60 : Int32)) dL_types_294 rfl ?_
        refine v_icmp_ne (pc := 296) 303 dL_types_296 rfl (fun hc => ?_) (fun hc => ?_)
        · replace hF := (okB_if hF).2 hc
          refine v_iconst (pc := 303) (v := (0 : Int32)) dL_types_303 rfl ?_
          refine s_iast (pc := 304) dL_types_304 hF (fun h20 hF => ?_)
          refine v_goto (pc := 305) 378 dL_types_305 rfl ?_
          exact v_ret (pc := 378) dL_types_378 rfl (okr hF fun q => q)
        replace hF := (okB_if hF).1 hc
        refine v_iconst (pc := 299) (v := (1 : Int32)) dL_types_299 rfl ?_
        refine v_goto (pc := 300) 304 dL_types_300 rfl ?_
        refine s_iast (pc := 304) dL_types_304 hF (fun h21 hF => ?_)
        refine v_goto (pc := 305) 378 dL_types_305 rfl ?_
        exact v_ret (pc := 378) dL_types_378 rfl (okr hF fun q => q)
      replace hF := (okB_if hF).2 hc
      refine v_iload_n (pc := 284) (i := 3) dL_types_284 rfl rfl ?_
      refine v_bipush (pc := 285) (v := (48 : Int32)) dL_types_285 rfl ?_
      refine v_icmp_ne (pc := 287) 308 dL_types_287 rfl (fun hc => ?_) (fun hc => ?_)
      · replace hF := (okB_if hF).2 hc
        refine v_iload_n (pc := 308) (i := 3) dL_types_308 rfl rfl ?_
        refine v_bipush (pc := 309) (v := (64 : Int32)) dL_types_309 rfl ?_
        refine v_icmp_ne (pc := 311) 367 dL_types_311 rfl (fun hc => ?_) (fun hc => ?_)
        · replace hF := (okB_if hF).2 hc
          refine v_iload_n (pc := 367) (i := 3) dL_types_367 rfl rfl ?_
          refine v_sipush (pc := 368) (v := (128 : Int32)) dL_types_368 rfl ?_
          refine v_icmp_ne (pc := 371) 378 dL_types_371 rfl (fun hc => ?_) (fun hc => ?_)
          · replace hF := (okB_if hF).2 hc
            exact v_ret (pc := 378) dL_types_378 rfl (okr hF fun q => q)
          replace hF := (okB_if hF).1 hc
          refine v_aload_n (pc := 374) (i := 0) dL_types_374 rfl rfl ?_
          refine v_iconst (pc := 375) (v := (4 : Int32)) dL_types_375 rfl ?_
          refine v_iconst (pc := 376) (v := (0 : Int32)) dL_types_376 rfl ?_
          refine s_iast (pc := 377) dL_types_377 hF (fun h22 hF => ?_)
          exact v_ret (pc := 378) dL_types_378 rfl (okr hF fun q => q)
        replace hF := (okB_if hF).1 hc
        refine v_aload_n (pc := 314) (i := 2) dL_types_314 rfl rfl ?_
        refine v_iload (pc := 315) (i := 4) dL_types_315 rfl ?_
        refine s_iald (pc := 317) dL_types_317 hF (fun x23 hF => ?_)
        refine v_if_le (pc := 318) 367 dL_types_318 rfl (fun hc => ?_) (fun hc => ?_)
        · replace hF := (okB_if hF).1 hc
          refine v_iload_n (pc := 367) (i := 3) dL_types_367 rfl rfl ?_
          refine v_sipush (pc := 368) (v := (128 : Int32)) dL_types_368 rfl ?_
          refine v_icmp_ne (pc := 371) 378 dL_types_371 rfl (fun hc => ?_) (fun hc => ?_)
          · replace hF := (okB_if hF).2 hc
            exact v_ret (pc := 378) dL_types_378 rfl (okr hF fun q => q)
          replace hF := (okB_if hF).1 hc
          refine v_aload_n (pc := 374) (i := 0) dL_types_374 rfl rfl ?_
          refine v_iconst (pc := 375) (v := (4 : Int32)) dL_types_375 rfl ?_
          refine v_iconst (pc := 376) (v := (0 : Int32)) dL_types_376 rfl ?_
          refine s_iast (pc := 377) dL_types_377 hF (fun h24 hF => ?_)
          exact v_ret (pc := 378) dL_types_378 rfl (okr hF fun q => q)
        replace hF := (okB_if hF).2 hc
        refine v_aload_n (pc := 321) (i := 2) dL_types_321 rfl rfl ?_
        refine v_iload (pc := 322) (i := 4) dL_types_322 rfl ?_
        refine v_dup2 (pc := 324) dL_types_324 rfl rfl ?_
        refine s_iald (pc := 325) dL_types_325 hF (fun x25 hF => ?_)
        refine v_iconst (pc := 326) (v := (1 : Int32)) dL_types_326 rfl ?_
        refine v_isub (pc := 327) dL_types_327 ?_
        refine s_iast (pc := 328) dL_types_328 hF (fun h26 hF => ?_)
        refine v_aload_n (pc := 329) (i := 1) dL_types_329 rfl rfl ?_
        refine v_iconst (pc := 330) (v := (2 : Int32)) dL_types_330 rfl ?_
        refine v_iload (pc := 331) (i := 4) dL_types_331 rfl ?_
        refine v_imul (pc := 333) dL_types_333 ?_
        refine v_aload_n (pc := 334) (i := 2) dL_types_334 rfl rfl ?_
        refine v_iload (pc := 335) (i := 4) dL_types_335 rfl ?_
        refine s_iald (pc := 337) dL_types_337 hF (fun x27 hF => ?_)
        refine v_bipush (pc := 338) (v := (6 : Int32)) dL_types_338 rfl ?_
        refine s_idiv (pc := 340) dL_types_340 hF (fun hF => ?_)
        refine v_iadd (pc := 341) dL_types_341 ?_
        refine v_dup2 (pc := 342) dL_types_342 rfl rfl ?_
        refine s_lald (pc := 343) dL_types_343 hF (fun x28 hF => ?_)
        refine v_ldc2 (pc := 344) (v := (127 : Int64)) dL_types_344 clL_28 ?_
        refine v_bipush (pc := 347) (v := (7 : Int32)) dL_types_347 rfl ?_
        refine v_aload_n (pc := 349) (i := 2) dL_types_349 rfl rfl ?_
        refine v_iload (pc := 350) (i := 4) dL_types_350 rfl ?_
        refine s_iald (pc := 352) dL_types_352 hF (fun x29 hF => ?_)
        refine v_bipush (pc := 353) (v := (6 : Int32)) dL_types_353 rfl ?_
        refine s_irem (pc := 355) dL_types_355 hF (fun hF => ?_)
        refine v_imul (pc := 356) dL_types_356 ?_
        refine v_lshl (pc := 357) dL_types_357 ?_
        refine v_ldc2 (pc := 358) (v := (-1 : Int64)) dL_types_358 clL_91 ?_
        refine v_lxor (pc := 361) dL_types_361 ?_
        refine v_land (pc := 362) dL_types_362 ?_
        refine s_last (pc := 363) dL_types_363 hF (fun h30 hF => ?_)
        refine v_goto (pc := 364) 378 dL_types_364 rfl ?_
        exact v_ret (pc := 378) dL_types_378 rfl (okr hF fun q => q)
      replace hF := (okB_if hF).1 hc
      refine v_aload_n (pc := 290) (i := 0) dL_types_290 rfl rfl ?_
      refine v_bipush (pc := 291) (v := (6 : Int32)) dL_types_291 rfl ?_
      refine v_iload_n (pc := 293) (i := 3) dL_types_293 rfl rfl ?_
      refine v_bipush (pc := 294) (v := (60 : Int32)) dL_types_294 rfl ?_
      refine v_icmp_ne (pc := 296) 303 dL_types_296 rfl (fun hc => ?_) (fun hc => ?_)
      · replace hF := (okB_if hF).2 hc
        refine v_iconst (pc := 303) (v := (0 : Int32)) dL_types_303 rfl ?_
        refine s_iast (pc := 304) dL_types_304 hF (fun h31 hF => ?_)
        refine v_goto (pc := 305) 378 dL_types_305 rfl ?_
        exact v_ret (pc := 378) dL_types_378 rfl (okr hF fun q => q)
      replace hF := (okB_if hF).1 hc
      refine v_iconst (pc := 299) (v := (1 : Int32)) dL_types_299 rfl ?_
      refine v_goto (pc := 300) 304 dL_types_300 rfl ?_
      refine s_iast (pc := 304) dL_types_304 hF (fun h32 hF => ?_)
      refine v_goto (pc := 305) 378 dL_types_305 rfl ?_
      exact v_ret (pc := 378) dL_types_378 rfl (okr hF fun q => q)
    replace hF := (okB_if hF).1 hc
    refine v_aload_n (pc := 271) (i := 0) dL_types_271 rfl rfl ?_
    refine v_iconst (pc := 272) (v := (5 : Int32)) dL_types_272 rfl ?_
    refine v_iconst (pc := 273) (v := (1 : Int32)) dL_types_273 rfl ?_
    refine s_iast (pc := 274) dL_types_274 hF (fun h33 hF => ?_)
    refine v_goto (pc := 275) 378 dL_types_275 rfl ?_
    exact v_ret (pc := 378) dL_types_378 rfl (okr hF fun q => q)
  replace hF := (okB_if hF).2 hc
  refine v_aload_n (pc := 170) (i := 1) dL_types_170 rfl rfl ?_
  refine v_iconst (pc := 171) (v := (2 : Int32)) dL_types_171 rfl ?_
  refine v_iload (pc := 172) (i := 4) dL_types_172 rfl ?_
  refine v_imul (pc := 174) dL_types_174 ?_
  refine v_aload_n (pc := 175) (i := 2) dL_types_175 rfl rfl ?_
  refine v_iload (pc := 176) (i := 4) dL_types_176 rfl ?_
  refine s_iald (pc := 178) dL_types_178 hF (fun x34 hF => ?_)
  refine v_bipush (pc := 179) (v := (6 : Int32)) dL_types_179 rfl ?_
  refine s_idiv (pc := 181) dL_types_181 hF (fun hF => ?_)
  refine v_iadd (pc := 182) dL_types_182 ?_
  refine v_dup2 (pc := 183) dL_types_183 rfl rfl ?_
  refine s_lald (pc := 184) dL_types_184 hF (fun x35 hF => ?_)
  refine v_iload (pc := 185) (i := 5) dL_types_185 rfl ?_
  refine v_i2l (pc := 187) dL_types_187 ?_
  refine v_bipush (pc := 188) (v := (7 : Int32)) dL_types_188 rfl ?_
  refine v_aload_n (pc := 190) (i := 2) dL_types_190 rfl rfl ?_
  refine v_iload (pc := 191) (i := 4) dL_types_191 rfl ?_
  refine s_iald (pc := 193) dL_types_193 hF (fun x36 hF => ?_)
  refine v_bipush (pc := 194) (v := (6 : Int32)) dL_types_194 rfl ?_
  refine s_irem (pc := 196) dL_types_196 hF (fun hF => ?_)
  refine v_imul (pc := 197) dL_types_197 ?_
  refine v_lshl (pc := 198) dL_types_198 ?_
  refine v_lor (pc := 199) dL_types_199 ?_
  refine s_last (pc := 200) dL_types_200 hF (fun h37 hF => ?_)
  refine v_aload_n (pc := 201) (i := 2) dL_types_201 rfl rfl ?_
  refine v_iload (pc := 202) (i := 4) dL_types_202 rfl ?_
  refine v_dup2 (pc := 204) dL_types_204 rfl rfl ?_
  refine s_iald (pc := 205) dL_types_205 hF (fun x38 hF => ?_)
  refine v_iconst (pc := 206) (v := (1 : Int32)) dL_types_206 rfl ?_
  refine v_iadd (pc := 207) dL_types_207 ?_
  refine s_iast (pc := 208) dL_types_208 hF (fun h39 hF => ?_)
  refine v_iload (pc := 209) (i := 5) dL_types_209 rfl ?_
  refine v_bipush (pc := 211) (v := (63 : Int32)) dL_types_211 rfl ?_
  refine mg (X := fun q40 => gV G mL_types 1 Q 221 [some (sr a0), none, none, some (si a3), none, none, none, none] [si q40] (0) (0) h39) hF (fun _ hj41 hF => ?_) (fun q40 hF => ?_)
  · refine v_icmp_le (pc := 213) 220 dL_types_213 rfl (fun hc => ?_) (fun hc => ?_)
    · replace hF := (okB_if hF).1 hc
      refine v_iconst (pc := 220) (v := (0 : Int32)) dL_types_220 rfl ?_
      exact v_lle [some (sr a0), none, none, some (si a3), none, none, none, none] ⟨rfl, rfl, trivial⟩ (hj41 (0 : Int32) (okB_some hF))
    replace hF := (okB_if hF).2 hc
    refine v_iconst (pc := 216) (v := (1 : Int32)) dL_types_216 rfl ?_
    refine v_goto (pc := 217) 221 dL_types_217 rfl ?_
    exact v_lle [some (sr a0), none, none, some (si a3), none, none, none, none] ⟨rfl, rfl, trivial⟩ (hj41 (1 : Int32) (okB_some hF))
  refine v_istore (pc := 221) (i := 7) [some (sr a0), none, none, some (si a3), none, none, none, some (si q40)] dL_types_221 (by decide) rfl rfl ?_
  refine v_aload_n (pc := 223) (i := 0) dL_types_223 rfl rfl ?_
  refine v_iconst (pc := 224) (v := (5 : Int32)) dL_types_224 rfl ?_
  refine v_iload (pc := 225) (i := 7) dL_types_225 rfl ?_
  refine mg (X := fun q42 => gV G mL_types 1 Q 237 [some (sr a0), none, none, some (si a3), none, none, none, some (si q40)] [si q42, si (5 : Int32), sr a0] (0) (0) h39) hF (fun _ hj43 hF => ?_) (fun q42 hF => ?_)
  · refine v_if_eq (pc := 227) 234 dL_types_227 rfl (fun hc => ?_) (fun hc => ?_)
    · replace hF := (okB_if hF).1 hc
      refine v_aload_n (pc := 234) (i := 0) dL_types_234 rfl rfl ?_
      refine v_iconst (pc := 235) (v := (5 : Int32)) dL_types_235 rfl ?_
      refine s_iald (pc := 236) dL_types_236 hF (fun x44 hF => ?_)
      exact v_lle [some (sr a0), none, none, some (si a3), none, none, none, some (si q40)] ⟨rfl, rfl, rfl, trivial⟩ (hj43 x44 (okB_some hF))
    replace hF := (okB_if hF).2 hc
    refine v_iconst (pc := 230) (v := (0 : Int32)) dL_types_230 rfl ?_
    refine v_goto (pc := 231) 237 dL_types_231 rfl ?_
    exact v_lle [some (sr a0), none, none, some (si a3), none, none, none, some (si q40)] ⟨rfl, rfl, rfl, trivial⟩ (hj43 (0 : Int32) (okB_some hF))
  refine s_iast (pc := 237) dL_types_237 hF (fun h45 hF => ?_)
  refine v_aload_n (pc := 238) (i := 0) dL_types_238 rfl rfl ?_
  refine v_bipush (pc := 239) (v := (6 : Int32)) dL_types_239 rfl ?_
  refine v_iload (pc := 241) (i := 7) dL_types_241 rfl ?_
  refine v_if_ne (pc := 243) 253 dL_types_243 rfl (fun hc => ?_) (fun hc => ?_)
  · replace hF := (okB_if hF).2 hc
    refine v_iconst (pc := 253) (v := (0 : Int32)) dL_types_253 rfl ?_
    refine v_goto (pc := 254) 261 dL_types_254 rfl ?_
    refine s_iast (pc := 261) dL_types_261 hF (fun h46 hF => ?_)
    refine v_goto (pc := 262) 378 dL_types_262 rfl ?_
    exact v_ret (pc := 378) dL_types_378 rfl (okr hF fun q => q)
  replace hF := (okB_if hF).1 hc
  refine v_iload_n (pc := 246) (i := 3) dL_types_246 rfl rfl ?_
  refine v_sipush (pc := 247) (v := (256 : Int32)) dL_types_247 rfl ?_
  refine v_icmp_ne (pc := 250) 257 dL_types_250 rfl (fun hc => ?_) (fun hc => ?_)
  · replace hF := (okB_if hF).2 hc
    refine v_aload_n (pc := 257) (i := 0) dL_types_257 rfl rfl ?_
    refine v_bipush (pc := 258) (v := (6 : Int32)) dL_types_258 rfl ?_
    refine s_iald (pc := 260) dL_types_260 hF (fun x47 hF => ?_)
    refine s_iast (pc := 261) dL_types_261 hF (fun h48 hF => ?_)
    refine v_goto (pc := 262) 378 dL_types_262 rfl ?_
    exact v_ret (pc := 378) dL_types_378 rfl (okr hF fun q => q)
  replace hF := (okB_if hF).1 hc
  refine v_iconst (pc := 253) (v := (0 : Int32)) dL_types_253 rfl ?_
  refine v_goto (pc := 254) 261 dL_types_254 rfl ?_
  refine s_iast (pc := 261) dL_types_261 hF (fun h49 hF => ?_)
  refine v_goto (pc := 262) 378 dL_types_262 rfl ?_
  exact v_ret (pc := 378) dL_types_378 rfl (okr hF fun q => q)
