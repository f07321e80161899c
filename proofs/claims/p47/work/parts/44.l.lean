/-! ===== the law's methods over its arrays: their functions and rows ===== -/
theorem dL_writes_0 : decode cL_writes 0 = .ok (.iload_n 3, 1) := by decide +kernel
theorem dL_writes_1 : decode cL_writes 1 = .ok (.istore 4, 2) := by decide +kernel
theorem dL_writes_3 : decode cL_writes 3 = .ok (.iconst 0, 1) := by decide +kernel
theorem dL_writes_4 : decode cL_writes 4 = .ok (.istore 5, 2) := by decide +kernel
theorem dL_writes_6 : decode cL_writes 6 = .ok (.iload 5, 2) := by decide +kernel
theorem dL_writes_8 : decode cL_writes 8 = .ok (.iload_n 1, 1) := by decide +kernel
theorem dL_writes_9 : decode cL_writes 9 = .ok (.if_icmp .ge 374, 3) := by decide +kernel
theorem dL_writes_12 : decode cL_writes 12 = .ok (.iload 5, 2) := by decide +kernel
theorem dL_writes_14 : decode cL_writes 14 = .ok (.istore 6, 2) := by decide +kernel
theorem dL_writes_16 : decode cL_writes 16 = .ok (.iconst 0, 1) := by decide +kernel
theorem dL_writes_17 : decode cL_writes 17 = .ok (.istore 7, 2) := by decide +kernel
theorem dL_writes_19 : decode cL_writes 19 = .ok (.iload 6, 2) := by decide +kernel
theorem dL_writes_21 : decode cL_writes 21 = .ok (.iload_n 1, 1) := by decide +kernel
theorem dL_writes_22 : decode cL_writes 22 = .ok (.if_icmp .ge 38, 3) := by decide +kernel
theorem dL_writes_25 : decode cL_writes 25 = .ok (.aload_n 0, 1) := by decide +kernel
theorem dL_writes_26 : decode cL_writes 26 = .ok (.iload 6, 2) := by decide +kernel
theorem dL_writes_28 : decode cL_writes 28 = .ok (.iaload, 1) := by decide +kernel
theorem dL_writes_29 : decode cL_writes 29 = .ok (.invokestatic 52, 3) := by decide +kernel
theorem dL_writes_32 : decode cL_writes 32 = .ok (.ifCond .eq 28, 3) := by decide +kernel
theorem dL_writes_35 : decode cL_writes 35 = .ok (.iload 7, 2) := by decide +kernel
theorem dL_writes_37 : decode cL_writes 37 = .ok (.aload_n 0, 1) := by decide +kernel
theorem dL_writes_38 : decode cL_writes 38 = .ok (.iload 6, 2) := by decide +kernel
theorem dL_writes_40 : decode cL_writes 40 = .ok (.iaload, 1) := by decide +kernel
theorem dL_writes_41 : decode cL_writes 41 = .ok (.bipush 97, 2) := by decide +kernel
theorem dL_writes_43 : decode cL_writes 43 = .ok (.if_icmp .ge 7, 3) := by decide +kernel
theorem dL_writes_46 : decode cL_writes 46 = .ok (.iconst 1, 1) := by decide +kernel
theorem dL_writes_47 : decode cL_writes 47 = .ok (.goto 4, 3) := by decide +kernel
theorem dL_writes_50 : decode cL_writes 50 = .ok (.iconst 0, 1) := by decide +kernel
theorem dL_writes_51 : decode cL_writes 51 = .ok (.iadd, 1) := by decide +kernel
theorem dL_writes_52 : decode cL_writes 52 = .ok (.istore 7, 2) := by decide +kernel
theorem dL_writes_54 : decode cL_writes 54 = .ok (.iinc 6 1, 3) := by decide +kernel
theorem dL_writes_57 : decode cL_writes 57 = .ok (.goto (-38), 3) := by decide +kernel
theorem dL_writes_60 : decode cL_writes 60 = .ok (.iload 6, 2) := by decide +kernel
theorem dL_writes_62 : decode cL_writes 62 = .ok (.iload 5, 2) := by decide +kernel
theorem dL_writes_64 : decode cL_writes 64 = .ok (.isub, 1) := by decide +kernel
theorem dL_writes_65 : decode cL_writes 65 = .ok (.iconst 1, 1) := by decide +kernel
theorem dL_writes_66 : decode cL_writes 66 = .ok (.if_icmp .le 17, 3) := by decide +kernel
theorem dL_writes_69 : decode cL_writes 69 = .ok (.iload 7, 2) := by decide +kernel
theorem dL_writes_71 : decode cL_writes 71 = .ok (.iload 6, 2) := by decide +kernel
theorem dL_writes_73 : decode cL_writes 73 = .ok (.iload 5, 2) := by decide +kernel
theorem dL_writes_75 : decode cL_writes 75 = .ok (.isub, 1) := by decide +kernel
theorem dL_writes_76 : decode cL_writes 76 = .ok (.if_icmp .ne 7, 3) := by decide +kernel
theorem dL_writes_79 : decode cL_writes 79 = .ok (.iconst 1, 1) := by decide +kernel
theorem dL_writes_80 : decode cL_writes 80 = .ok (.goto 4, 3) := by decide +kernel
theorem dL_writes_83 : decode cL_writes 83 = .ok (.iconst 0, 1) := by decide +kernel
theorem dL_writes_84 : decode cL_writes 84 = .ok (.istore 8, 2) := by decide +kernel
theorem dL_writes_86 : decode cL_writes 86 = .ok (.iload 8, 2) := by decide +kernel
theorem dL_writes_88 : decode cL_writes 88 = .ok (.ifCond .eq 20, 3) := by decide +kernel
theorem dL_writes_91 : decode cL_writes 91 = .ok (.aload_n 2, 1) := by decide +kernel
theorem dL_writes_92 : decode cL_writes 92 = .ok (.iload 4, 2) := by decide +kernel
theorem dL_writes_94 : decode cL_writes 94 = .ok (.bipush 32, 2) := by decide +kernel
theorem dL_writes_96 : decode cL_writes 96 = .ok (.iastore, 1) := by decide +kernel
theorem dL_writes_97 : decode cL_writes 97 = .ok (.aload_n 2, 1) := by decide +kernel
theorem dL_writes_98 : decode cL_writes 98 = .ok (.iload 4, 2) := by decide +kernel
theorem dL_writes_100 : decode cL_writes 100 = .ok (.iconst 1, 1) := by decide +kernel
theorem dL_writes_101 : decode cL_writes 101 = .ok (.iadd, 1) := by decide +kernel
theorem dL_writes_102 : decode cL_writes 102 = .ok (.bipush 32, 2) := by decide +kernel
theorem dL_writes_104 : decode cL_writes 104 = .ok (.iastore, 1) := by decide +kernel
theorem dL_writes_105 : decode cL_writes 105 = .ok (.iinc 4 2, 3) := by decide +kernel
theorem dL_writes_108 : decode cL_writes 108 = .ok (.iload 5, 2) := by decide +kernel
theorem dL_writes_110 : decode cL_writes 110 = .ok (.istore 9, 2) := by decide +kernel
theorem dL_writes_112 : decode cL_writes 112 = .ok (.iload 9, 2) := by decide +kernel
theorem dL_writes_114 : decode cL_writes 114 = .ok (.iload 6, 2) := by decide +kernel
theorem dL_writes_116 : decode cL_writes 116 = .ok (.if_icmp .ge 121, 3) := by decide +kernel
theorem dL_writes_119 : decode cL_writes 119 = .ok (.aload_n 0, 1) := by decide +kernel
theorem dL_writes_120 : decode cL_writes 120 = .ok (.iload 9, 2) := by decide +kernel
theorem dL_writes_122 : decode cL_writes 122 = .ok (.iaload, 1) := by decide +kernel
theorem dL_writes_123 : decode cL_writes 123 = .ok (.bipush 97, 2) := by decide +kernel
theorem dL_writes_125 : decode cL_writes 125 = .ok (.if_icmp .ge 7, 3) := by decide +kernel
theorem dL_writes_128 : decode cL_writes 128 = .ok (.iconst 1, 1) := by decide +kernel
theorem dL_writes_129 : decode cL_writes 129 = .ok (.goto 4, 3) := by decide +kernel
theorem dL_writes_132 : decode cL_writes 132 = .ok (.iconst 0, 1) := by decide +kernel
theorem dL_writes_133 : decode cL_writes 133 = .ok (.istore 10, 2) := by decide +kernel
theorem dL_writes_135 : decode cL_writes 135 = .ok (.aload_n 0, 1) := by decide +kernel
theorem dL_writes_136 : decode cL_writes 136 = .ok (.iload 9, 2) := by decide +kernel
theorem dL_writes_138 : decode cL_writes 138 = .ok (.iaload, 1) := by decide +kernel
theorem dL_writes_139 : decode cL_writes 139 = .ok (.iload 10, 2) := by decide +kernel
theorem dL_writes_141 : decode cL_writes 141 = .ok (.ifCond .eq 8, 3) := by decide +kernel
theorem dL_writes_144 : decode cL_writes 144 = .ok (.bipush 65, 2) := by decide +kernel
theorem dL_writes_146 : decode cL_writes 146 = .ok (.goto 5, 3) := by decide +kernel
theorem dL_writes_149 : decode cL_writes 149 = .ok (.bipush 97, 2) := by decide +kernel
theorem dL_writes_151 : decode cL_writes 151 = .ok (.isub, 1) := by decide +kernel
theorem dL_writes_152 : decode cL_writes 152 = .ok (.istore 11, 2) := by decide +kernel
theorem dL_writes_154 : decode cL_writes 154 = .ok (.iload 10, 2) := by decide +kernel
theorem dL_writes_156 : decode cL_writes 156 = .ok (.ifCond .eq 8, 3) := by decide +kernel
theorem dL_writes_159 : decode cL_writes 159 = .ok (.iload 8, 2) := by decide +kernel
theorem dL_writes_161 : decode cL_writes 161 = .ok (.ifCond .eq 39, 3) := by decide +kernel
theorem dL_writes_164 : decode cL_writes 164 = .ok (.iload 10, 2) := by decide +kernel
theorem dL_writes_166 : decode cL_writes 166 = .ok (.ifCond .ne 53, 3) := by decide +kernel
theorem dL_writes_169 : decode cL_writes 169 = .ok (.iload 9, 2) := by decide +kernel
theorem dL_writes_171 : decode cL_writes 171 = .ok (.iload 5, 2) := by decide +kernel
theorem dL_writes_173 : decode cL_writes 173 = .ok (.if_icmp .ne 46, 3) := by decide +kernel
theorem dL_writes_176 : decode cL_writes 176 = .ok (.iload 11, 2) := by decide +kernel
theorem dL_writes_178 : decode cL_writes 178 = .ok (.bipush 10, 2) := by decide +kernel
theorem dL_writes_180 : decode cL_writes 180 = .ok (.if_icmp .ge 39, 3) := by decide +kernel
theorem dL_writes_183 : decode cL_writes 183 = .ok (.iload 5, 2) := by decide +kernel
theorem dL_writes_185 : decode cL_writes 185 = .ok (.ifCond .le 34, 3) := by decide +kernel
theorem dL_writes_188 : decode cL_writes 188 = .ok (.aload_n 0, 1) := by decide +kernel
theorem dL_writes_189 : decode cL_writes 189 = .ok (.iload 5, 2) := by decide +kernel
theorem dL_writes_191 : decode cL_writes 191 = .ok (.iconst 1, 1) := by decide +kernel
theorem dL_writes_192 : decode cL_writes 192 = .ok (.isub, 1) := by decide +kernel
theorem dL_writes_193 : decode cL_writes 193 = .ok (.iaload, 1) := by decide +kernel
theorem dL_writes_194 : decode cL_writes 194 = .ok (.invokestatic 56, 3) := by decide +kernel
theorem dL_writes_197 : decode cL_writes 197 = .ok (.ifCond .eq 22, 3) := by decide +kernel
theorem dL_writes_200 : decode cL_writes 200 = .ok (.aload_n 2, 1) := by decide +kernel
theorem dL_writes_201 : decode cL_writes 201 = .ok (.iload 4, 2) := by decide +kernel
theorem dL_writes_203 : decode cL_writes 203 = .ok (.iload 10, 2) := by decide +kernel
theorem dL_writes_205 : decode cL_writes 205 = .ok (.ifCond .eq 8, 3) := by decide +kernel
theorem dL_writes_208 : decode cL_writes 208 = .ok (.bipush 32, 2) := by decide +kernel
theorem dL_writes_210 : decode cL_writes 210 = .ok (.goto 5, 3) := by decide +kernel
theorem dL_writes_213 : decode cL_writes 213 = .ok (.bipush 48, 2) := by decide +kernel
theorem dL_writes_215 : decode cL_writes 215 = .ok (.iastore, 1) := by decide +kernel
theorem dL_writes_216 : decode cL_writes 216 = .ok (.iinc 4 1, 3) := by decide +kernel
theorem dL_writes_219 : decode cL_writes 219 = .ok (.aload_n 2, 1) := by decide +kernel
theorem dL_writes_220 : decode cL_writes 220 = .ok (.iload 4, 2) := by decide +kernel
theorem dL_writes_222 : decode cL_writes 222 = .ok (.iload 11, 2) := by decide +kernel
theorem dL_writes_224 : decode cL_writes 224 = .ok (.invokestatic 59, 3) := by decide +kernel
theorem dL_writes_227 : decode cL_writes 227 = .ok (.iastore, 1) := by decide +kernel
theorem dL_writes_228 : decode cL_writes 228 = .ok (.iinc 4 1, 3) := by decide +kernel
theorem dL_writes_231 : decode cL_writes 231 = .ok (.iinc 9 1, 3) := by decide +kernel
theorem dL_writes_234 : decode cL_writes 234 = .ok (.goto (-122), 3) := by decide +kernel
theorem dL_writes_237 : decode cL_writes 237 = .ok (.iload 6, 2) := by decide +kernel
theorem dL_writes_239 : decode cL_writes 239 = .ok (.iload 5, 2) := by decide +kernel
theorem dL_writes_241 : decode cL_writes 241 = .ok (.if_icmp .ne 135, 3) := by decide +kernel
theorem dL_writes_244 : decode cL_writes 244 = .ok (.aload_n 0, 1) := by decide +kernel
theorem dL_writes_245 : decode cL_writes 245 = .ok (.iload 5, 2) := by decide +kernel
theorem dL_writes_247 : decode cL_writes 247 = .ok (.iaload, 1) := by decide +kernel
theorem dL_writes_248 : decode cL_writes 248 = .ok (.istore 9, 2) := by decide +kernel
theorem dL_writes_250 : decode cL_writes 250 = .ok (.iload 9, 2) := by decide +kernel
theorem dL_writes_252 : decode cL_writes 252 = .ok (.invokestatic 56, 3) := by decide +kernel
theorem dL_writes_255 : decode cL_writes 255 = .ok (.ifCond .eq 29, 3) := by decide +kernel
theorem dL_writes_258 : decode cL_writes 258 = .ok (.iload 5, 2) := by decide +kernel
theorem dL_writes_260 : decode cL_writes 260 = .ok (.ifCond .eq 15, 3) := by decide +kernel
theorem dL_writes_263 : decode cL_writes 263 = .ok (.aload_n 0, 1) := by decide +kernel
theorem dL_writes_264 : decode cL_writes 264 = .ok (.iload 5, 2) := by decide +kernel
theorem dL_writes_266 : decode cL_writes 266 = .ok (.iconst 1, 1) := by decide +kernel
theorem dL_writes_267 : decode cL_writes 267 = .ok (.isub, 1) := by decide +kernel
theorem dL_writes_268 : decode cL_writes 268 = .ok (.iaload, 1) := by decide +kernel
theorem dL_writes_269 : decode cL_writes 269 = .ok (.invokestatic 56, 3) := by decide +kernel
theorem dL_writes_272 : decode cL_writes 272 = .ok (.ifCond .ne 12, 3) := by decide +kernel
theorem dL_writes_275 : decode cL_writes 275 = .ok (.aload_n 2, 1) := by decide +kernel
theorem dL_writes_276 : decode cL_writes 276 = .ok (.iload 4, 2) := by decide +kernel
theorem dL_writes_278 : decode cL_writes 278 = .ok (.bipush 60, 2) := by decide +kernel
theorem dL_writes_280 : decode cL_writes 280 = .ok (.iastore, 1) := by decide +kernel
theorem dL_writes_281 : decode cL_writes 281 = .ok (.iinc 4 1, 3) := by decide +kernel
theorem dL_writes_284 : decode cL_writes 284 = .ok (.aload_n 2, 1) := by decide +kernel
theorem dL_writes_285 : decode cL_writes 285 = .ok (.iload 4, 2) := by decide +kernel
theorem dL_writes_287 : decode cL_writes 287 = .ok (.iload 9, 2) := by decide +kernel
theorem dL_writes_289 : decode cL_writes 289 = .ok (.invokestatic 56, 3) := by decide +kernel
theorem dL_writes_292 : decode cL_writes 292 = .ok (.ifCond .eq 17, 3) := by decide +kernel
theorem dL_writes_295 : decode cL_writes 295 = .ok (.iload 9, 2) := by decide +kernel
theorem dL_writes_297 : decode cL_writes 297 = .ok (.bipush 39, 2) := by decide +kernel
theorem dL_writes_299 : decode cL_writes 299 = .ok (.isub, 1) := by decide +kernel
theorem dL_writes_300 : decode cL_writes 300 = .ok (.bipush 10, 2) := by decide +kernel
theorem dL_writes_302 : decode cL_writes 302 = .ok (.irem, 1) := by decide +kernel
theorem dL_writes_303 : decode cL_writes 303 = .ok (.invokestatic 59, 3) := by decide +kernel
theorem dL_writes_306 : decode cL_writes 306 = .ok (.goto 63, 3) := by decide +kernel
theorem dL_writes_309 : decode cL_writes 309 = .ok (.iload 9, 2) := by decide +kernel
theorem dL_writes_311 : decode cL_writes 311 = .ok (.bipush 32, 2) := by decide +kernel
theorem dL_writes_313 : decode cL_writes 313 = .ok (.if_icmp .ne 7, 3) := by decide +kernel
theorem dL_writes_316 : decode cL_writes 316 = .ok (.iconst 0, 1) := by decide +kernel
theorem dL_writes_317 : decode cL_writes 317 = .ok (.goto 52, 3) := by decide +kernel
theorem dL_writes_320 : decode cL_writes 320 = .ok (.iload 9, 2) := by decide +kernel
theorem dL_writes_322 : decode cL_writes 322 = .ok (.bipush 46, 2) := by decide +kernel
theorem dL_writes_324 : decode cL_writes 324 = .ok (.if_icmp .ne 8, 3) := by decide +kernel
theorem dL_writes_327 : decode cL_writes 327 = .ok (.bipush 50, 2) := by decide +kernel
theorem dL_writes_329 : decode cL_writes 329 = .ok (.goto 40, 3) := by decide +kernel
theorem dL_writes_332 : decode cL_writes 332 = .ok (.iload 9, 2) := by decide +kernel
theorem dL_writes_334 : decode cL_writes 334 = .ok (.bipush 44, 2) := by decide +kernel
theorem dL_writes_336 : decode cL_writes 336 = .ok (.if_icmp .ne 7, 3) := by decide +kernel
theorem dL_writes_339 : decode cL_writes 339 = .ok (.iconst 2, 1) := by decide +kernel
theorem dL_writes_340 : decode cL_writes 340 = .ok (.goto 29, 3) := by decide +kernel
theorem dL_writes_343 : decode cL_writes 343 = .ok (.iload 9, 2) := by decide +kernel
theorem dL_writes_345 : decode cL_writes 345 = .ok (.bipush 63, 2) := by decide +kernel
theorem dL_writes_347 : decode cL_writes 347 = .ok (.if_icmp .ne 8, 3) := by decide +kernel
theorem dL_writes_350 : decode cL_writes 350 = .ok (.bipush 38, 2) := by decide +kernel
theorem dL_writes_352 : decode cL_writes 352 = .ok (.goto 17, 3) := by decide +kernel
theorem dL_writes_355 : decode cL_writes 355 = .ok (.iload 9, 2) := by decide +kernel
theorem dL_writes_357 : decode cL_writes 357 = .ok (.bipush 45, 2) := by decide +kernel
theorem dL_writes_359 : decode cL_writes 359 = .ok (.if_icmp .ne 8, 3) := by decide +kernel
theorem dL_writes_362 : decode cL_writes 362 = .ok (.bipush 36, 2) := by decide +kernel
theorem dL_writes_364 : decode cL_writes 364 = .ok (.goto 5, 3) := by decide +kernel
theorem dL_writes_367 : decode cL_writes 367 = .ok (.bipush 63, 2) := by decide +kernel
theorem dL_writes_369 : decode cL_writes 369 = .ok (.iastore, 1) := by decide +kernel
theorem dL_writes_370 : decode cL_writes 370 = .ok (.iinc 4 1, 3) := by decide +kernel
theorem dL_writes_373 : decode cL_writes 373 = .ok (.iinc 6 1, 3) := by decide +kernel
theorem dL_writes_376 : decode cL_writes 376 = .ok (.iload 6, 2) := by decide +kernel
theorem dL_writes_378 : decode cL_writes 378 = .ok (.istore 5, 2) := by decide +kernel
theorem dL_writes_380 : decode cL_writes 380 = .ok (.goto (-374), 3) := by decide +kernel
theorem dL_writes_383 : decode cL_writes 383 = .ok (.iload 4, 2) := by decide +kernel
theorem dL_writes_385 : decode cL_writes 385 = .ok (.ireturn, 1) := by decide +kernel
abbrev mL_writes : gM := (yL_writes, cL_writes, 12, (Option.some FieldType.int), [])
theorem caL_writes : cal mL_writes 4 := ⟨xw 898 (by decide +kernel) rfl, xw 28 (by decide +kernel) rfl, by decide, by decide +kernel⟩
theorem csL_writes : Cond.static yL_writes ∈ XW := xw 897 (by decide +kernel) rfl
theorem lkL_52 : Cond.methodLink RL 52 yL_isLetter ∈ XW := xw 899 (by decide +kernel) rfl
theorem lkL_56 : Cond.methodLink RL 56 yL_isDigit ∈ XW := xw 902 (by decide +kernel) rfl
theorem lkL_59 : Cond.methodLink RL 59 yL_points ∈ XW := xw 878 (by decide +kernel) rfl
/-! BrailleDeskLaw.writes -/
theorem lL_writes_19 {G : gG} {Q : hQ} {P : (Int32 × Int32) → Prop} {k n : Nat} (c0 : (Option Nat)) (c1 : Int32) (c2 : (Option Nat)) (c4 : Int32) (c5 : Int32) (h : hp) (hJ : ∀ q : (Int32 × Int32), P q → gV G mL_writes 1 Q 60 [some (sr c0), some (si c1), some (sr c2), none, some (si c4), some (si c5), some (si q.1), some (si q.2), none, none, none, none] [] (k) (n) h) : ∀ (fu : Nat) (a : (Int32 × Int32)), okB (itr (fL_writes_B19 c0 c1 c2 c4 c5 h) fu a) P → gV G mL_writes 1 Q 19 [some (sr c0), some (si c1), some (sr c2), none, some (si c4), some (si c5), some (si a.1), some (si a.2), none, none, none, none] [] (k) (n) h :=
  lpg (X := fun (a : (Int32 × Int32)) => gV G mL_writes 1 Q 19 [some (sr c0), some (si c1), some (sr c2), none, some (si c4), some (si c5), some (si a.1), some (si a.2), none, none, none, none] [] (k) (n) h) (fun a P2 hL hE hF => by
    delta fL_writes_B19 at hF
    refine v_iload (pc := 19) (i := 6) dL_writes_19 rfl ?_
    refine v_iload_n (pc := 21) (i := 1) dL_writes_21 rfl rfl ?_
    refine v_icmp_ge (pc := 22) 60 dL_writes_22 rfl (fun hc => ?_) (fun hc => ?_)
    · replace hF := (okB_if hF).1 hc
      exact v_lle [some (sr c0), some (si c1), some (sr c2), none, some (si c4), some (si c5), some (si a.1), some (si a.2), none, none, none, none] ⟨rfl, rfl, rfl, rfl, rfl, rfl, rfl, trivial⟩ (hJ (a.1, a.2) (hE _ (okB_some hF)))
    replace hF := (okB_if hF).2 hc
    refine v_aload_n (pc := 25) (i := 0) dL_writes_25 rfl rfl ?_
    refine v_iload (pc := 26) (i := 6) dL_writes_26 rfl ?_
    refine s_iald (pc := 28) dL_writes_28 hF (fun x1 hF => ?_)
    refine cp_S (pc := 29) gI (as := [si x1]) (st := []) (N := mL_isLetter) (k := k) (n := n) (k1 := 0) (n1 := 0) dL_writes_29 lkL_52 caL_isLetter csL_isLetter rfl (fun Q1 hq => tL_isLetter x1 h Q1 hq) ⟨by decide, by decide⟩ (Nat.le_of_ble_eq_true rfl) rfl hF (fun x2 hF => ?_)
    show gV G mL_writes 1 Q 32 [some (sr c0), some (si c1), some (sr c2), none, some (si c4), some (si c5), some (si a.1), some (si a.2), none, none, none, none] [si x2] (k) (n) h
    refine v_if_eq (pc := 32) 60 dL_writes_32 rfl (fun hc => ?_) (fun hc => ?_)
    · replace hF := (okB_if hF).1 hc
      exact v_lle [some (sr c0), some (si c1), some (sr c2), none, some (si c4), some (si c5), some (si a.1), some (si a.2), none, none, none, none] ⟨rfl, rfl, rfl, rfl, rfl, rfl, rfl, trivial⟩ (hJ (a.1, a.2) (hE _ (okB_some hF)))
    replace hF := (okB_if hF).2 hc
    refine v_iload (pc := 35) (i := 7) dL_writes_35 rfl ?_
    refine v_aload_n (pc := 37) (i := 0) dL_writes_37 rfl rfl ?_
    refine v_iload (pc := 38) (i := 6) dL_writes_38 rfl ?_
    refine s_iald (pc := 40) dL_writes_40 hF (fun x3 hF => ?_)
    refine v_bipush (pc := 41) (v := (97 : Int32)) dL_writes_41 rfl ?_
    refine v_icmp_ge (pc := 43) 50 dL_writes_43 rfl (fun hc => ?_) (fun hc => ?_)
    · replace hF := (okB_if hF).1 hc
      refine v_iconst (pc := 50) (v := (0 : Int32)) dL_writes_50 rfl ?_
      refine v_iadd (pc := 51) dL_writes_51 ?_
      refine v_istore (pc := 52) (i := 7) [some (sr c0), some (si c1), some (sr c2), none, some (si c4), some (si c5), some (si a.1), some (si (a.2 + (0 : Int32))), none, none, none, none] dL_writes_52 (by decide) rfl rfl ?_
      refine v_iinc (pc := 54) (i := 6) (a.1 + (1 : Int32)) [some (sr c0), some (si c1), some (sr c2), none, some (si c4), some (si c5), some (si (a.1 + (1 : Int32))), some (si (a.2 + (0 : Int32))), none, none, none, none] dL_writes_54 rfl rfl rfl rfl ?_
      refine v_goto (pc := 57) 19 dL_writes_57 rfl ?_
      exact v_lle [some (sr c0), some (si c1), some (sr c2), none, some (si c4), some (si c5), some (si (a.1 + (1 : Int32))), some (si (a.2 + (0 : Int32))), none, none, none, none] ⟨rfl, rfl, rfl, rfl, rfl, rfl, rfl, trivial⟩ (hL (a.1 + (1 : Int32), a.2 + (0 : Int32)) (okB_some hF))
    replace hF := (okB_if hF).2 hc
    refine v_iconst (pc := 46) (v := (1 : Int32)) dL_writes_46 rfl ?_
    refine v_goto (pc := 47) 51 dL_writes_47 rfl ?_
    refine v_iadd (pc := 51) dL_writes_51 ?_
    refine v_istore (pc := 52) (i := 7) [some (sr c0), some (si c1), some (sr c2), none, some (si c4), some (si c5), some (si a.1), some (si (a.2 + (1 : Int32))), none, none, none, none] dL_writes_52 (by decide) rfl rfl ?_
    refine v_iinc (pc := 54) (i := 6) (a.1 + (1 : Int32)) [some (sr c0), some (si c1), some (sr c2), none, some (si c4), some (si c5), some (si (a.1 + (1 : Int32))), some (si (a.2 + (1 : Int32))), none, none, none, none] dL_writes_54 rfl rfl rfl rfl ?_
    refine v_goto (pc := 57) 19 dL_writes_57 rfl ?_
    exact v_lle [some (sr c0), some (si c1), some (sr c2), none, some (si c4), some (si c5), some (si (a.1 + (1 : Int32))), some (si (a.2 + (1 : Int32))), none, none, none, none] ⟨rfl, rfl, rfl, rfl, rfl, rfl, rfl, trivial⟩ (hL (a.1 + (1 : Int32), a.2 + (1 : Int32)) (okB_some hF)))
theorem lL_writes_112 {G : gG} {Q : hQ} {P : (Int32 × hp) → Prop} {k n : Nat} (c0 : (Option Nat)) (c1 : Int32) (c2 : (Option Nat)) (c5 : Int32) (c6 : Int32) (c8 : Int32) (hJ : ∀ q : (Int32 × hp), P q → gV G mL_writes 1 Q 237 [some (sr c0), some (si c1), some (sr c2), none, some (si q.1), some (si c5), some (si c6), none, none, none, none, none] [] (k) (n) q.2) : ∀ (fu : Nat) (a : (Int32 × Int32 × hp)), okB (itr (fL_writes_B112 c0 c1 c2 c5 c6 c8) fu a) P → gV G mL_writes 1 Q 112 [some (sr c0), some (si c1), some (sr c2), none, some (si a.1), some (si c5), some (si c6), none, some (si c8), some (si a.2.1), none, none] [] (k) (n) a.2.2 :=
  lpg (X := fun (a : (Int32 × Int32 × hp)) => gV G mL_writes 1 Q 112 [some (sr c0), some (si c1), some (sr c2), none, some (si a.1), some (si c5), some (si c6), none, some (si c8), some (si a.2.1), none, none] [] (k) (n) a.2.2) (fun a P2 hL hE hF => by
    delta fL_writes_B112 at hF
    refine v_iload (pc := 112) (i := 9) dL_writes_112 rfl ?_
    refine v_iload (pc := 114) (i := 6) dL_writes_114 rfl ?_
    refine v_icmp_ge (pc := 116) 237 dL_writes_116 rfl (fun hc => ?_) (fun hc => ?_)
    · replace hF := (okB_if hF).1 hc
      exact v_lle [some (sr c0), some (si c1), some (sr c2), none, some (si a.1), some (si c5), some (si c6), none, none, none, none, none] ⟨rfl, rfl, rfl, rfl, rfl, rfl, trivial⟩ (hJ (a.1, a.2.2) (hE _ (okB_some hF)))
    replace hF := (okB_if hF).2 hc
    refine v_aload_n (pc := 119) (i := 0) dL_writes_119 rfl rfl ?_
    refine v_iload (pc := 120) (i := 9) dL_writes_120 rfl ?_
    refine s_iald (pc := 122) dL_writes_122 hF (fun x1 hF => ?_)
    refine v_bipush (pc := 123) (v := (97 : Int32)) dL_writes_123 rfl ?_
    refine mg (X := fun q2 => gV G mL_writes 1 Q 133 [some (sr c0), some (si c1), some (sr c2), none, some (si a.1), some (si c5), some (si c6), none, some (si c8), some (si a.2.1), none, none] [si q2] (k) (n) a.2.2) hF (fun _ hj3 hF => ?_) (fun q2 hF => ?_)
    · refine v_icmp_ge (pc := 125) 132 dL_writes_125 rfl (fun hc => ?_) (fun hc => ?_)
      · replace hF := (okB_if hF).1 hc
        refine v_iconst (pc := 132) (v := (0 : Int32)) dL_writes_132 rfl ?_
        exact v_lle [some (sr c0), some (si c1), some (sr c2), none, some (si a.1), some (si c5), some (si c6), none, some (si c8), some (si a.2.1), none, none] ⟨rfl, rfl, rfl, rfl, rfl, rfl, rfl, rfl, trivial⟩ (hj3 (0 : Int32) (okB_some hF))
      replace hF := (okB_if hF).2 hc
      refine v_iconst (pc := 128) (v := (1 : Int32)) dL_writes_128 rfl ?_
      refine v_goto (pc := 129) 133 dL_writes_129 rfl ?_
      exact v_lle [some (sr c0), some (si c1), some (sr c2), none, some (si a.1), some (si c5), some (si c6), none, some (si c8), some (si a.2.1), none, none] ⟨rfl, rfl, rfl, rfl, rfl, rfl, rfl, rfl, trivial⟩ (hj3 (1 : Int32) (okB_some hF))
    refine v_istore (pc := 133) (i := 10) [some (sr c0), some (si c1), some (sr c2), none, some (si a.1), some (si c5), some (si c6), none, some (si c8), some (si a.2.1), some (si q2), none] dL_writes_133 (by decide) rfl rfl ?_
    refine v_aload_n (pc := 135) (i := 0) dL_writes_135 rfl rfl ?_
    refine v_iload (pc := 136) (i := 9) dL_writes_136 rfl ?_
    refine s_iald (pc := 138) dL_writes_138 hF (fun x4 hF => ?_)
    refine v_iload (pc := 139) (i := 10) dL_writes_139 rfl ?_
    refine mg (X := fun q5 => gV G mL_writes 1 Q 151 [some (sr c0), some (si c1), some (sr c2), none, some (si a.1), some (si c5), some (si c6), none, some (si c8), some (si a.2.1), some (si q2), none] [si q5, si x4] (k) (n) a.2.2) hF (fun _ hj6 hF => ?_) (fun q5 hF => ?_)
    · refine v_if_eq (pc := 141) 149 dL_writes_141 rfl (fun hc => ?_) (fun hc => ?_)
      · replace hF := (okB_if hF).1 hc
        refine v_bipush (pc := 149) (v := (97 : Int32)) dL_writes_149 rfl ?_
        exact v_lle [some (sr c0), some (si c1), some (sr c2), none, some (si a.1), some (si c5), some (si c6), none, some (si c8), some (si a.2.1), some (si q2), none] ⟨rfl, rfl, rfl, rfl, rfl, rfl, rfl, rfl, rfl, trivial⟩ (hj6 (97 : Int32) (okB_some hF))
      replace hF := (okB_if hF).2 hc
      refine v_bipush (pc := 144) (v := (65 : Int32)) dL_writes_144 rfl ?_
      refine v_goto (pc := 146) 151 dL_writes_146 rfl ?_
      exact v_lle [some (sr c0), some (si c1), some (sr c2), none, some (si a.1), some (si c5), some (si c6), none, some (si c8), some (si a.2.1), some (si q2), none] ⟨rfl, rfl, rfl, rfl, rfl, rfl, rfl, rfl, rfl, trivial⟩ (hj6 (65 : Int32) (okB_some hF))
    refine v_isub (pc := 151) dL_writes_151 ?_
    refine v_istore (pc := 152) (i := 11) [some (sr c0), some (si c1), some (sr c2), none, some (si a.1), some (si c5), some (si c6), none, some (si c8), some (si a.2.1), some (si q2), some (si (x4 - q5))] dL_writes_152 (by decide) rfl rfl ?_
    refine v_iload (pc := 154) (i := 10) dL_writes_154 rfl ?_
    refine mg (X := fun q7 => gV G mL_writes 1 Q 219 [some (sr c0), some (si c1), some (sr c2), none, some (si q7.1), some (si c5), some (si c6), none, some (si c8), some (si a.2.1), none, some (si (x4 - q5))] [] (k) (n) q7.2) hF (fun _ hj8 hF => ?_) (fun q7 hF => ?_)
    · refine v_if_eq (pc := 156) 164 dL_writes_156 rfl (fun hc => ?_) (fun hc => ?_)
      · replace hF := (okB_if hF).1 hc
        refine v_iload (pc := 164) (i := 10) dL_writes_164 rfl ?_
        refine v_if_ne (pc := 166) 219 dL_writes_166 rfl (fun hc => ?_) (fun hc => ?_)
        · replace hF := (okB_if hF).2 hc
          exact v_lle [some (sr c0), some (si c1), some (sr c2), none, some (si a.1), some (si c5), some (si c6), none, some (si c8), some (si a.2.1), none, some (si (x4 - q5))] ⟨rfl, rfl, rfl, rfl, rfl, rfl, rfl, rfl, rfl, trivial⟩ (hj8 (a.1, a.2.2) (okB_some hF))
        replace hF := (okB_if hF).1 hc
        refine v_iload (pc := 169) (i := 9) dL_writes_169 rfl ?_
        refine v_iload (pc := 171) (i := 5) dL_writes_171 rfl ?_
        refine v_icmp_ne (pc := 173) 219 dL_writes_173 rfl (fun hc => ?_) (fun hc => ?_)
        · replace hF := (okB_if hF).2 hc
          exact v_lle [some (sr c0), some (si c1), some (sr c2), none, some (si a.1), some (si c5), some (si c6), none, some (si c8), some (si a.2.1), none, some (si (x4 - q5))] ⟨rfl, rfl, rfl, rfl, rfl, rfl, rfl, rfl, rfl, trivial⟩ (hj8 (a.1, a.2.2) (okB_some hF))
        replace hF := (okB_if hF).1 hc
        refine v_iload (pc := 176) (i := 11) dL_writes_176 rfl ?_
        refine v_bipush (pc := 178) (v := (10 : Int32)) dL_writes_178 rfl ?_
        refine v_icmp_ge (pc := 180) 219 dL_writes_180 rfl (fun hc => ?_) (fun hc => ?_)
        · replace hF := (okB_if hF).1 hc
          exact v_lle [some (sr c0), some (si c1), some (sr c2), none, some (si a.1), some (si c5), some (si c6), none, some (si c8), some (si a.2.1), none, some (si (x4 - q5))] ⟨rfl, rfl, rfl, rfl, rfl, rfl, rfl, rfl, rfl, trivial⟩ (hj8 (a.1, a.2.2) (okB_some hF))
        replace hF := (okB_if hF).2 hc
        refine v_iload (pc := 183) (i := 5) dL_writes_183 rfl ?_
        refine v_if_le (pc := 185) 219 dL_writes_185 rfl (fun hc => ?_) (fun hc => ?_)
        · replace hF := (okB_if hF).1 hc
          exact v_lle [some (sr c0), some (si c1), some (sr c2), none, some (si a.1), some (si c5), some (si c6), none, some (si c8), some (si a.2.1), none, some (si (x4 - q5))] ⟨rfl, rfl, rfl, rfl, rfl, rfl, rfl, rfl, rfl, trivial⟩ (hj8 (a.1, a.2.2) (okB_some hF))
        replace hF := (okB_if hF).2 hc
        refine v_aload_n (pc := 188) (i := 0) dL_writes_188 rfl rfl ?_
        refine v_iload (pc := 189) (i := 5) dL_writes_189 rfl ?_
        refine v_iconst (pc := 191) (v := (1 : Int32)) dL_writes_191 rfl ?_
        refine v_isub (pc := 192) dL_writes_192 ?_
        refine s_iald (pc := 193) dL_writes_193 hF (fun x9 hF => ?_)
        refine cp_S (pc := 194) gI (as := [si x9]) (st := []) (N := mL_isDigit) (k := k) (n := n) (k1 := 0) (n1 := 0) dL_writes_194 lkL_56 caL_isDigit csL_isDigit rfl (fun Q1 hq => tL_isDigit x9 a.2.2 Q1 hq) ⟨by decide, by decide⟩ (Nat.le_of_ble_eq_true rfl) rfl hF (fun x10 hF => ?_)
        show gV G mL_writes 1 Q 197 [some (sr c0), some (si c1), some (sr c2), none, some (si a.1), some (si c5), some (si c6), none, some (si c8), some (si a.2.1), some (si q2), some (si (x4 - q5))] [si x10] (k) (n) a.2.2
        refine v_if_eq (pc := 197) 219 dL_writes_197 rfl (fun hc => ?_) (fun hc => ?_)
        · replace hF := (okB_if hF).1 hc
          exact v_lle [some (sr c0), some (si c1), some (sr c2), none, some (si a.1), some (si c5), some (si c6), none, some (si c8), some (si a.2.1), none, some (si (x4 - q5))] ⟨rfl, rfl, rfl, rfl, rfl, rfl, rfl, rfl, rfl, trivial⟩ (hj8 (a.1, a.2.2) (okB_some hF))
        replace hF := (okB_if hF).2 hc
        refine v_aload_n (pc := 200) (i := 2) dL_writes_200 rfl rfl ?_
        refine v_iload (pc := 201) (i := 4) dL_writes_201 rfl ?_
        refine v_iload (pc := 203) (i := 10) dL_writes_203 rfl ?_
        refine v_if_eq (pc := 205) 213 dL_writes_205 rfl (fun hc => ?_) (fun hc => ?_)
        · replace hF := (okB_if hF).1 hc
          refine v_bipush (pc := 213) (v := (48 : Int32)) dL_writes_213 rfl ?_
          refine s_iast (pc := 215) dL_writes_215 hF (fun h11 hF => ?_)
          refine v_iinc (pc := 216) (i := 4) (a.1 + (1 : Int32)) [some (sr c0), some (si c1), some (sr c2), none, some (si (a.1 + (1 : Int32))), some (si c5), some (si c6), none, some (si c8), some (si a.2.1), some (si q2), some (si (x4 - q5))] dL_writes_216 rfl rfl rfl rfl ?_
          exact v_lle [some (sr c0), some (si c1), some (sr c2), none, some (si (a.1 + (1 : Int32))), some (si c5), some (si c6), none, some (si c8), some (si a.2.1), none, some (si (x4 - q5))] ⟨rfl, rfl, rfl, rfl, rfl, rfl, rfl, rfl, rfl, trivial⟩ (hj8 (a.1 + (1 : Int32), h11) (okB_some hF))
        replace hF := (okB_if hF).2 hc
        refine v_bipush (pc := 208) (v := (32 : Int32)) dL_writes_208 rfl ?_
        refine v_goto (pc := 210) 215 dL_writes_210 rfl ?_
        refine s_iast (pc := 215) dL_writes_215 hF (fun h12 hF => ?_)
        refine v_iinc (pc := 216) (i := 4) (a.1 + (1 : Int32)) [some (sr c0), some (si c1), some (sr c2), none, some (si (a.1 + (1 : Int32))), some (si c5), some (si c6), none, some (si c8), some (si a.2.1), some (si q2), some (si (x4 - q5))] dL_writes_216 rfl rfl rfl rfl ?_
        exact v_lle [some (sr c0), some (si c1), some (sr c2), none, some (si (a.1 + (1 : Int32))), some (si c5), some (si c6), none, some (si c8), some (si a.2.1), none, some (si (x4 - q5))] ⟨rfl, rfl, rfl, rfl, rfl, rfl, rfl, rfl, rfl, trivial⟩ (hj8 (a.1 + (1 : Int32), h12) (okB_some hF))
      replace hF := (okB_if hF).2 hc
      refine v_iload (pc := 159) (i := 8) dL_writes_159 rfl ?_
      refine mgR (X := fun q13 => gV G mL_writes 1 Q 200 [some (sr c0), some (si c1), some (sr c2), none, some (si a.1), some (si c5), some (si c6), none, some (si c8), some (si a.2.1), some (si q2), some (si (x4 - q5))] [] (k) (n) a.2.2) hF (fun _ hj14 hr14 hF => ?_) (fun q13 hF => ?_)
      · refine v_if_eq (pc := 161) 200 dL_writes_161 rfl (fun hc => ?_) (fun hc => ?_)
        · replace hF := (okB_if hF).1 hc
          exact v_lle [some (sr c0), some (si c1), some (sr c2), none, some (si a.1), some (si c5), some (si c6), none, some (si c8), some (si a.2.1), some (si q2), some (si (x4 - q5))] ⟨rfl, rfl, rfl, rfl, rfl, rfl, rfl, rfl, rfl, rfl, trivial⟩ (hj14 () (okB_some hF))
        replace hF := (okB_if hF).2 hc
        refine v_iload (pc := 164) (i := 10) dL_writes_164 rfl ?_
        refine v_if_ne (pc := 166) 219 dL_writes_166 rfl (fun hc => ?_) (fun hc => ?_)
        · replace hF := (okB_if hF).2 hc
          exact v_lle [some (sr c0), some (si c1), some (sr c2), none, some (si a.1), some (si c5), some (si c6), none, some (si c8), some (si a.2.1), none, some (si (x4 - q5))] ⟨rfl, rfl, rfl, rfl, rfl, rfl, rfl, rfl, rfl, trivial⟩ (hj8 (a.1, a.2.2) (hr14 _ (okB_some hF)))
        replace hF := (okB_if hF).1 hc
        refine v_iload (pc := 169) (i := 9) dL_writes_169 rfl ?_
        refine v_iload (pc := 171) (i := 5) dL_writes_171 rfl ?_
        refine v_icmp_ne (pc := 173) 219 dL_writes_173 rfl (fun hc => ?_) (fun hc => ?_)
        · replace hF := (okB_if hF).2 hc
          exact v_lle [some (sr c0), some (si c1), some (sr c2), none, some (si a.1), some (si c5), some (si c6), none, some (si c8), some (si a.2.1), none, some (si (x4 - q5))] ⟨rfl, rfl, rfl, rfl, rfl, rfl, rfl, rfl, rfl, trivial⟩ (hj8 (a.1, a.2.2) (hr14 _ (okB_some hF)))
        replace hF := (okB_if hF).1 hc
        refine v_iload (pc := 176) (i := 11) dL_writes_176 rfl ?_
        refine v_bipush (pc := 178) (v := (10 : Int32)) dL_writes_178 rfl ?_
        refine v_icmp_ge (pc := 180) 219 dL_writes_180 rfl (fun hc => ?_) (fun hc => ?_)
        · replace hF := (okB_if hF).1 hc
          exact v_lle [some (sr c0), some (si c1), some (sr c2), none, some (si a.1), some (si c5), some (si c6), none, some (si c8), some (si a.2.1), none, some (si (x4 - q5))] ⟨rfl, rfl, rfl, rfl, rfl, rfl, rfl, rfl, rfl, trivial⟩ (hj8 (a.1, a.2.2) (hr14 _ (okB_some hF)))
        replace hF := (okB_if hF).2 hc
        refine v_iload (pc := 183) (i := 5) dL_writes_183 rfl ?_
        refine v_if_le (pc := 185) 219 dL_writes_185 rfl (fun hc => ?_) (fun hc => ?_)
        · replace hF := (okB_if hF).1 hc
          exact v_lle [some (sr c0), some (si c1), some (sr c2), none, some (si a.1), some (si c5), some (si c6), none, some (si c8), some (si a.2.1), none, some (si (x4 - q5))] ⟨rfl, rfl, rfl, rfl, rfl, rfl, rfl, rfl, rfl, trivial⟩ (hj8 (a.1, a.2.2) (hr14 _ (okB_some hF)))
        replace hF := (okB_if hF).2 hc
        refine v_aload_n (pc := 188) (i := 0) dL_writes_188 rfl rfl ?_
        refine v_iload (pc := 189) (i := 5) dL_writes_189 rfl ?_
        refine v_iconst (pc := 191) (v := (1 : Int32)) dL_writes_191 rfl ?_
        refine v_isub (pc := 192) dL_writes_192 ?_
        refine s_iald (pc := 193) dL_writes_193 hF (fun x15 hF => ?_)
        refine cp_S (pc := 194) gI (as := [si x15]) (st := []) (N := mL_isDigit) (k := k) (n := n) (k1 := 0) (n1 := 0) dL_writes_194 lkL_56 caL_isDigit csL_isDigit rfl (fun Q1 hq => tL_isDigit x15 a.2.2 Q1 hq) ⟨by decide, by decide⟩ (Nat.le_of_ble_eq_true rfl) rfl hF (fun x16 hF => ?_)
        show gV G mL_writes 1 Q 197 [some (sr c0), some (si c1), some (sr c2), none, some (si a.1), some (si c5), some (si c6), none, some (si c8), some (si a.2.1), some (si q2), some (si (x4 - q5))] [si x16] (k) (n) a.2.2
        refine v_if_eq (pc := 197) 219 dL_writes_197 rfl (fun hc => ?_) (fun hc => ?_)
        · replace hF := (okB_if hF).1 hc
          exact v_lle [some (sr c0), some (si c1), some (sr c2), none, some (si a.1), some (si c5), some (si c6), none, some (si c8), some (si a.2.1), none, some (si (x4 - q5))] ⟨rfl, rfl, rfl, rfl, rfl, rfl, rfl, rfl, rfl, trivial⟩ (hj8 (a.1, a.2.2) (hr14 _ (okB_some hF)))
        replace hF := (okB_if hF).2 hc
        exact v_lle [some (sr c0), some (si c1), some (sr c2), none, some (si a.1), some (si c5), some (si c6), none, some (si c8), some (si a.2.1), some (si q2), some (si (x4 - q5))] ⟨rfl, rfl, rfl, rfl, rfl, rfl, rfl, rfl, rfl, rfl, trivial⟩ (hj14 () (okB_some hF))
      refine v_aload_n (pc := 200) (i := 2) dL_writes_200 rfl rfl ?_
      refine v_iload (pc := 201) (i := 4) dL_writes_201 rfl ?_
      refine v_iload (pc := 203) (i := 10) dL_writes_203 rfl ?_
      refine v_if_eq (pc := 205) 213 dL_writes_205 rfl (fun hc => ?_) (fun hc => ?_)
      · replace hF := (okB_if hF).1 hc
        refine v_bipush (pc := 213) (v := (48 : Int32)) dL_writes_213 rfl ?_
        refine s_iast (pc := 215) dL_writes_215 hF (fun h17 hF => ?_)
        refine v_iinc (pc := 216) (i := 4) (a.1 + (1 : Int32)) [some (sr c0), some (si c1), some (sr c2), none, some (si (a.1 + (1 : Int32))), some (si c5), some (si c6), none, some (si c8), some (si a.2.1), some (si q2), some (si (x4 - q5))] dL_writes_216 rfl rfl rfl rfl ?_
        exact v_lle [some (sr c0), some (si c1), some (sr c2), none, some (si (a.1 + (1 : Int32))), some (si c5), some (si c6), none, some (si c8), some (si a.2.1), none, some (si (x4 - q5))] ⟨rfl, rfl, rfl, rfl, rfl, rfl, rfl, rfl, rfl, trivial⟩ (hj8 (a.1 + (1 : Int32), h17) (okB_some hF))
      replace hF := (okB_if hF).2 hc
      refine v_bipush (pc := 208) (v := (32 : Int32)) dL_writes_208 rfl ?_
      refine v_goto (pc := 210) 215 dL_writes_210 rfl ?_
      refine s_iast (pc := 215) dL_writes_215 hF (fun h18 hF => ?_)
      refine v_iinc (pc := 216) (i := 4) (a.1 + (1 : Int32)) [some (sr c0), some (si c1), some (sr c2), none, some (si (a.1 + (1 : Int32))), some (si c5), some (si c6), none, some (si c8), some (si a.2.1), some (si q2), some (si (x4 - q5))] dL_writes_216 rfl rfl rfl rfl ?_
      exact v_lle [some (sr c0), some (si c1), some (sr c2), none, some (si (a.1 + (1 : Int32))), some (si c5), some (si c6), none, some (si c8), some (si a.2.1), none, some (si (x4 - q5))] ⟨rfl, rfl, rfl, rfl, rfl, rfl, rfl, rfl, rfl, trivial⟩ (hj8 (a.1 + (1 : Int32), h18) (okB_some hF))
    refine v_aload_n (pc := 219) (i := 2) dL_writes_219 rfl rfl ?_
    refine v_iload (pc := 220) (i := 4) dL_writes_220 rfl ?_
    refine v_iload (pc := 222) (i := 11) dL_writes_222 rfl ?_
    refine cp_S (pc := 224) gI (as := [si (x4 - q5)]) (st := [si q7.1, sr c2]) (N := mL_points) (k := k) (n := n) (k1 := 0) (n1 := 0) dL_writes_224 lkL_59 caL_points csL_points rfl (fun Q1 hq => tL_points (x4 - q5) q7.2 Q1 hq) ⟨by decide, by decide⟩ (Nat.le_of_ble_eq_true rfl) rfl hF (fun x19 hF => ?_)
    show gV G mL_writes 1 Q 227 [some (sr c0), some (si c1), some (sr c2), none, some (si q7.1), some (si c5), some (si c6), none, some (si c8), some (si a.2.1), none, some (si (x4 - q5))] [si x19, si q7.1, sr c2] (k) (n) q7.2
    refine s_iast (pc := 227) dL_writes_227 hF (fun h20 hF => ?_)
    refine v_iinc (pc := 228) (i := 4) (q7.1 + (1 : Int32)) [some (sr c0), some (si c1), some (sr c2), none, some (si (q7.1 + (1 : Int32))), some (si c5), some (si c6), none, some (si c8), some (si a.2.1), none, some (si (x4 - q5))] dL_writes_228 rfl rfl rfl rfl ?_
    refine v_iinc (pc := 231) (i := 9) (a.2.1 + (1 : Int32)) [some (sr c0), some (si c1), some (sr c2), none, some (si (q7.1 + (1 : Int32))), some (si c5), some (si c6), none, some (si c8), some (si (a.2.1 + (1 : Int32))), none, some (si (x4 - q5))] dL_writes_231 rfl rfl rfl rfl ?_
    refine v_goto (pc := 234) 112 dL_writes_234 rfl ?_
    exact v_lle [some (sr c0), some (si c1), some (sr c2), none, some (si (q7.1 + (1 : Int32))), some (si c5), some (si c6), none, some (si c8), some (si (a.2.1 + (1 : Int32))), none, none] ⟨rfl, rfl, rfl, rfl, rfl, rfl, rfl, rfl, trivial⟩ (hL (q7.1 + (1 : Int32), a.2.1 + (1 : Int32), h20) (okB_some hF)))
theorem lL_writes_6 {G : gG} {Q : hQ} {P : (Int32 × hp) → Prop} {k n : Nat} (c0 : (Option Nat)) (c1 : Int32) (c2 : (Option Nat)) (hJ : ∀ q : (Int32 × hp), P q → gV G mL_writes 1 Q 383 [none, none, none, none, some (si q.1), none, none, none, none, none, none, none] [] (k) (n) q.2) : ∀ (fu : Nat) (a : (Int32 × Int32 × hp)), okB (itr (fL_writes_B6 c0 c1 c2) fu a) P → gV G mL_writes 1 Q 6 [some (sr c0), some (si c1), some (sr c2), none, some (si a.1), some (si a.2.1), none, none, none, none, none, none] [] (k) (n) a.2.2 :=
  lpg (X := fun (a : (Int32 × Int32 × hp)) => gV G mL_writes 1 Q 6 [some (sr c0), some (si c1), some (sr c2), none, some (si a.1), some (si a.2.1), none, none, none, none, none, none] [] (k) (n) a.2.2) (fun a P2 hL hE hF => by
    delta fL_writes_B6 at hF
    refine v_iload (pc := 6) (i := 5) dL_writes_6 rfl ?_
    refine v_iload_n (pc := 8) (i := 1) dL_writes_8 rfl rfl ?_
    refine v_icmp_ge (pc := 9) 383 dL_writes_9 rfl (fun hc => ?_) (fun hc => ?_)
    · replace hF := (okB_if hF).1 hc
      exact v_lle [none, none, none, none, some (si a.1), none, none, none, none, none, none, none] ⟨rfl, trivial⟩ (hJ (a.1, a.2.2) (hE _ (okB_some hF)))
    replace hF := (okB_if hF).2 hc
    refine v_iload (pc := 12) (i := 5) dL_writes_12 rfl ?_
    refine v_istore (pc := 14) (i := 6) [some (sr c0), some (si c1), some (sr c2), none, some (si a.1), some (si a.2.1), some (si a.2.1), none, none, none, none, none] dL_writes_14 (by decide) rfl rfl ?_
    refine v_iconst (pc := 16) (v := (0 : Int32)) dL_writes_16 rfl ?_
    refine v_istore (pc := 17) (i := 7) [some (sr c0), some (si c1), some (sr c2), none, some (si a.1), some (si a.2.1), some (si a.2.1), some (si (0 : Int32)), none, none, none, none] dL_writes_17 (by decide) rfl rfl ?_
    refine mg (X := fun q1 => gV G mL_writes 1 Q 60 [some (sr c0), some (si c1), some (sr c2), none, some (si a.1), some (si a.2.1), some (si q1.1), some (si q1.2), none, none, none, none] [] (k) (n) a.2.2) hF (fun _ hj27 hF => v_lle [some (sr c0), some (si c1), some (sr c2), none, some (si a.1), some (si a.2.1), some (si a.2.1), some (si (0 : Int32)), none, none, none, none] ⟨rfl, rfl, rfl, rfl, rfl, rfl, rfl, trivial⟩ (lL_writes_19 c0 c1 c2 a.1 a.2.1 a.2.2 hj27 FU (a.2.1, (0 : Int32)) hF)) (fun q1 hF => ?_)
    refine v_iload (pc := 60) (i := 6) dL_writes_60 rfl ?_
    refine v_iload (pc := 62) (i := 5) dL_writes_62 rfl ?_
    refine v_isub (pc := 64) dL_writes_64 ?_
    refine v_iconst (pc := 65) (v := (1 : Int32)) dL_writes_65 rfl ?_
    refine mg (X := fun q2 => gV G mL_writes 1 Q 84 [some (sr c0), some (si c1), some (sr c2), none, some (si a.1), some (si a.2.1), some (si q1.1), none, none, none, none, none] [si q2] (k) (n) a.2.2) hF (fun _ hj3 hF => ?_) (fun q2 hF => ?_)
    · refine v_icmp_le (pc := 66) 83 dL_writes_66 rfl (fun hc => ?_) (fun hc => ?_)
      · replace hF := (okB_if hF).1 hc
        refine v_iconst (pc := 83) (v := (0 : Int32)) dL_writes_83 rfl ?_
        exact v_lle [some (sr c0), some (si c1), some (sr c2), none, some (si a.1), some (si a.2.1), some (si q1.1), none, none, none, none, none] ⟨rfl, rfl, rfl, rfl, rfl, rfl, trivial⟩ (hj3 (0 : Int32) (okB_some hF))
      replace hF := (okB_if hF).2 hc
      refine v_iload (pc := 69) (i := 7) dL_writes_69 rfl ?_
      refine v_iload (pc := 71) (i := 6) dL_writes_71 rfl ?_
      refine v_iload (pc := 73) (i := 5) dL_writes_73 rfl ?_
      refine v_isub (pc := 75) dL_writes_75 ?_
      refine v_icmp_ne (pc := 76) 83 dL_writes_76 rfl (fun hc => ?_) (fun hc => ?_)
      · replace hF := (okB_if hF).2 hc
        refine v_iconst (pc := 83) (v := (0 : Int32)) dL_writes_83 rfl ?_
        exact v_lle [some (sr c0), some (si c1), some (sr c2), none, some (si a.1), some (si a.2.1), some (si q1.1), none, none, none, none, none] ⟨rfl, rfl, rfl, rfl, rfl, rfl, trivial⟩ (hj3 (0 : Int32) (okB_some hF))
      replace hF := (okB_if hF).1 hc
      refine v_iconst (pc := 79) (v := (1 : Int32)) dL_writes_79 rfl ?_
      refine v_goto (pc := 80) 84 dL_writes_80 rfl ?_
      exact v_lle [some (sr c0), some (si c1), some (sr c2), none, some (si a.1), some (si a.2.1), some (si q1.1), none, none, none, none, none] ⟨rfl, rfl, rfl, rfl, rfl, rfl, trivial⟩ (hj3 (1 : Int32) (okB_some hF))
    refine v_istore (pc := 84) (i := 8) [some (sr c0), some (si c1), some (sr c2), none, some (si a.1), some (si a.2.1), some (si q1.1), none, some (si q2), none, none, none] dL_writes_84 (by decide) rfl rfl ?_
    refine v_iload (pc := 86) (i := 8) dL_writes_86 rfl ?_
    refine mg (X := fun q4 => gV G mL_writes 1 Q 108 [some (sr c0), some (si c1), some (sr c2), none, some (si q4.1), some (si a.2.1), some (si q1.1), none, some (si q2), none, none, none] [] (k) (n) q4.2) hF (fun _ hj5 hF => ?_) (fun q4 hF => ?_)
    · refine v_if_eq (pc := 88) 108 dL_writes_88 rfl (fun hc => ?_) (fun hc => ?_)
      · replace hF := (okB_if hF).1 hc
        exact v_lle [some (sr c0), some (si c1), some (sr c2), none, some (si a.1), some (si a.2.1), some (si q1.1), none, some (si q2), none, none, none] ⟨rfl, rfl, rfl, rfl, rfl, rfl, rfl, trivial⟩ (hj5 (a.1, a.2.2) (okB_some hF))
      replace hF := (okB_if hF).2 hc
      refine v_aload_n (pc := 91) (i := 2) dL_writes_91 rfl rfl ?_
      refine v_iload (pc := 92) (i := 4) dL_writes_92 rfl ?_
      refine v_bipush (pc := 94) (v := (32 : Int32)) dL_writes_94 rfl ?_
      refine s_iast (pc := 96) dL_writes_96 hF (fun h6 hF => ?_)
      refine v_aload_n (pc := 97) (i := 2) dL_writes_97 rfl rfl ?_
      refine v_iload (pc := 98) (i := 4) dL_writes_98 rfl ?_
      refine v_iconst (pc := 100) (v := (1 : Int32)) dL_writes_100 rfl ?_
      refine v_iadd (pc := 101) dL_writes_101 ?_
      refine v_bipush (pc := 102) (v := (32 : Int32)) dL_writes_102 rfl ?_
      refine s_iast (pc := 104) dL_writes_104 hF (fun h7 hF => ?_)
      refine v_iinc (pc := 105) (i := 4) (a.1 + (2 : Int32)) [some (sr c0), some (si c1), some (sr c2), none, some (si (a.1 + (2 : Int32))), some (si a.2.1), some (si q1.1), none, some (si q2), none, none, none] dL_writes_105 rfl rfl rfl rfl ?_
      exact v_lle [some (sr c0), some (si c1), some (sr c2), none, some (si (a.1 + (2 : Int32))), some (si a.2.1), some (si q1.1), none, some (si q2), none, none, none] ⟨rfl, rfl, rfl, rfl, rfl, rfl, rfl, trivial⟩ (hj5 (a.1 + (2 : Int32), h7) (okB_some hF))
    refine v_iload (pc := 108) (i := 5) dL_writes_108 rfl ?_
    refine v_istore (pc := 110) (i := 9) [some (sr c0), some (si c1), some (sr c2), none, some (si q4.1), some (si a.2.1), some (si q1.1), none, some (si q2), some (si a.2.1), none, none] dL_writes_110 (by decide) rfl rfl ?_
    refine mg (X := fun q8 => gV G mL_writes 1 Q 237 [some (sr c0), some (si c1), some (sr c2), none, some (si q8.1), some (si a.2.1), some (si q1.1), none, none, none, none, none] [] (k) (n) q8.2) hF (fun _ hj26 hF => v_lle [some (sr c0), some (si c1), some (sr c2), none, some (si q4.1), some (si a.2.1), some (si q1.1), none, some (si q2), some (si a.2.1), none, none] ⟨rfl, rfl, rfl, rfl, rfl, rfl, rfl, rfl, trivial⟩ (lL_writes_112 c0 c1 c2 a.2.1 q1.1 q2 hj26 FU (q4.1, a.2.1, q4.2) hF)) (fun q8 hF => ?_)
    refine v_iload (pc := 237) (i := 6) dL_writes_237 rfl ?_
    refine v_iload (pc := 239) (i := 5) dL_writes_239 rfl ?_
    refine v_icmp_ne (pc := 241) 376 dL_writes_241 rfl (fun hc => ?_) (fun hc => ?_)
    · replace hF := (okB_if hF).2 hc
      refine v_iload (pc := 376) (i := 6) dL_writes_376 rfl ?_
      refine v_istore (pc := 378) (i := 5) [some (sr c0), some (si c1), some (sr c2), none, some (si q8.1), some (si q1.1), some (si q1.1), none, none, none, none, none] dL_writes_378 (by decide) rfl rfl ?_
      refine v_goto (pc := 380) 6 dL_writes_380 rfl ?_
      exact v_lle [some (sr c0), some (si c1), some (sr c2), none, some (si q8.1), some (si q1.1), none, none, none, none, none, none] ⟨rfl, rfl, rfl, rfl, rfl, trivial⟩ (hL (q8.1, q1.1, q8.2) (okB_some hF))
    replace hF := (okB_if hF).1 hc
    refine v_aload_n (pc := 244) (i := 0) dL_writes_244 rfl rfl ?_
    refine v_iload (pc := 245) (i := 5) dL_writes_245 rfl ?_
    refine s_iald (pc := 247) dL_writes_247 hF (fun x9 hF => ?_)
    refine v_istore (pc := 248) (i := 9) [some (sr c0), some (si c1), some (sr c2), none, some (si q8.1), some (si a.2.1), some (si q1.1), none, none, some (si x9), none, none] dL_writes_248 (by decide) rfl rfl ?_
    refine v_iload (pc := 250) (i := 9) dL_writes_250 rfl ?_
    refine cp_S (pc := 252) gI (as := [si x9]) (st := []) (N := mL_isDigit) (k := k) (n := n) (k1 := 0) (n1 := 0) dL_writes_252 lkL_56 caL_isDigit csL_isDigit rfl (fun Q1 hq => tL_isDigit x9 q8.2 Q1 hq) ⟨by decide, by decide⟩ (Nat.le_of_ble_eq_true rfl) rfl hF (fun x10 hF => ?_)
    show gV G mL_writes 1 Q 255 [some (sr c0), some (si c1), some (sr c2), none, some (si q8.1), some (si a.2.1), some (si q1.1), none, none, some (si x9), none, none] [si x10] (k) (n) q8.2
    refine mg (X := fun q11 => gV G mL_writes 1 Q 284 [some (sr c0), some (si c1), some (sr c2), none, some (si q11.1), none, some (si q1.1), none, none, some (si x9), none, none] [] (k) (n) q11.2) hF (fun _ hj12 hF => ?_) (fun q11 hF => ?_)
    · refine v_if_eq (pc := 255) 284 dL_writes_255 rfl (fun hc => ?_) (fun hc => ?_)
      · replace hF := (okB_if hF).1 hc
        exact v_lle [some (sr c0), some (si c1), some (sr c2), none, some (si q8.1), none, some (si q1.1), none, none, some (si x9), none, none] ⟨rfl, rfl, rfl, rfl, rfl, rfl, trivial⟩ (hj12 (q8.1, q8.2) (okB_some hF))
      replace hF := (okB_if hF).2 hc
      refine v_iload (pc := 258) (i := 5) dL_writes_258 rfl ?_
      refine v_if_eq (pc := 260) 275 dL_writes_260 rfl (fun hc => ?_) (fun hc => ?_)
      · replace hF := (okB_if hF).1 hc
        refine v_aload_n (pc := 275) (i := 2) dL_writes_275 rfl rfl ?_
        refine v_iload (pc := 276) (i := 4) dL_writes_276 rfl ?_
        refine v_bipush (pc := 278) (v := (60 : Int32)) dL_writes_278 rfl ?_
        refine s_iast (pc := 280) dL_writes_280 hF (fun h13 hF => ?_)
        refine v_iinc (pc := 281) (i := 4) (q8.1 + (1 : Int32)) [some (sr c0), some (si c1), some (sr c2), none, some (si (q8.1 + (1 : Int32))), some (si a.2.1), some (si q1.1), none, none, some (si x9), none, none] dL_writes_281 rfl rfl rfl rfl ?_
        exact v_lle [some (sr c0), some (si c1), some (sr c2), none, some (si (q8.1 + (1 : Int32))), none, some (si q1.1), none, none, some (si x9), none, none] ⟨rfl, rfl, rfl, rfl, rfl, rfl, trivial⟩ (hj12 (q8.1 + (1 : Int32), h13) (okB_some hF))
      replace hF := (okB_if hF).2 hc
      refine v_aload_n (pc := 263) (i := 0) dL_writes_263 rfl rfl ?_
      refine v_iload (pc := 264) (i := 5) dL_writes_264 rfl ?_
      refine v_iconst (pc := 266) (v := (1 : Int32)) dL_writes_266 rfl ?_
      refine v_isub (pc := 267) dL_writes_267 ?_
      refine s_iald (pc := 268) dL_writes_268 hF (fun x14 hF => ?_)
      refine cp_S (pc := 269) gI (as := [si x14]) (st := []) (N := mL_isDigit) (k := k) (n := n) (k1 := 0) (n1 := 0) dL_writes_269 lkL_56 caL_isDigit csL_isDigit rfl (fun Q1 hq => tL_isDigit x14 q8.2 Q1 hq) ⟨by decide, by decide⟩ (Nat.le_of_ble_eq_true rfl) rfl hF (fun x15 hF => ?_)
      show gV G mL_writes 1 Q 272 [some (sr c0), some (si c1), some (sr c2), none, some (si q8.1), some (si a.2.1), some (si q1.1), none, none, some (si x9), none, none] [si x15] (k) (n) q8.2
      refine v_if_ne (pc := 272) 284 dL_writes_272 rfl (fun hc => ?_) (fun hc => ?_)
      · replace hF := (okB_if hF).2 hc
        exact v_lle [some (sr c0), some (si c1), some (sr c2), none, some (si q8.1), none, some (si q1.1), none, none, some (si x9), none, none] ⟨rfl, rfl, rfl, rfl, rfl, rfl, trivial⟩ (hj12 (q8.1, q8.2) (okB_some hF))
      replace hF := (okB_if hF).1 hc
      refine v_aload_n (pc := 275) (i := 2) dL_writes_275 rfl rfl ?_
      refine v_iload (pc := 276) (i := 4) dL_writes_276 rfl ?_
      refine v_bipush (pc := 278) (v := (60 : Int32)) dL_writes_278 rfl ?_
      refine s_iast (pc := 280) dL_writes_280 hF (fun h16 hF => ?_)
      refine v_iinc (pc := 281) (i := 4) (q8.1 + (1 : Int32)) [some (sr c0), some (si c1), some (sr c2), none, some (si (q8.1 + (1 : Int32))), some (si a.2.1), some (si q1.1), none, none, some (si x9), none, none] dL_writes_281 rfl rfl rfl rfl ?_
      exact v_lle [some (sr c0), some (si c1), some (sr c2), none, some (si (q8.1 + (1 : Int32))), none, some (si q1.1), none, none, some (si x9), none, none] ⟨rfl, rfl, rfl, rfl, rfl, rfl, trivial⟩ (hj12 (q8.1 + (1 : Int32), h16) (okB_some hF))
    refine v_aload_n (pc := 284) (i := 2) dL_writes_284 rfl rfl ?_
    refine v_iload (pc := 285) (i := 4) dL_writes_285 rfl ?_
    refine v_iload (pc := 287) (i := 9) dL_writes_287 rfl ?_
    refine cp_S (pc := 289) gI (as := [si x9]) (st := [si q11.1, sr c2]) (N := mL_isDigit) (k := k) (n := n) (k1 := 0) (n1 := 0) dL_writes_289 lkL_56 caL_isDigit csL_isDigit rfl (fun Q1 hq => tL_isDigit x9 q11.2 Q1 hq) ⟨by decide, by decide⟩ (Nat.le_of_ble_eq_true rfl) rfl hF (fun x17 hF => ?_)
    show gV G mL_writes 1 Q 292 [some (sr c0), some (si c1), some (sr c2), none, some (si q11.1), none, some (si q1.1), none, none, some (si x9), none, none] [si x17, si q11.1, sr c2] (k) (n) q11.2
    refine v_if_eq (pc := 292) 309 dL_writes_292 rfl (fun hc => ?_) (fun hc => ?_)
    · replace hF := (okB_if hF).1 hc
      refine v_iload (pc := 309) (i := 9) dL_writes_309 rfl ?_
      refine v_bipush (pc := 311) (v := (32 : Int32)) dL_writes_311 rfl ?_
      refine v_icmp_ne (pc := 313) 320 dL_writes_313 rfl (fun hc => ?_) (fun hc => ?_)
      · replace hF := (okB_if hF).2 hc
        refine v_iload (pc := 320) (i := 9) dL_writes_320 rfl ?_
        refine v_bipush (pc := 322) (v := (46 : Int32)) dL_writes_322 rfl ?_
        refine v_icmp_ne (pc := 324) 332 dL_writes_324 rfl (fun hc => ?_) (fun hc => ?_)
        · replace hF := (okB_if hF).2 hc
          refine v_iload (pc := 332) (i := 9) dL_writes_332 rfl ?_
          refine v_bipush (pc := 334) (v := (44 : Int32)) dL_writes_334 rfl ?_
          refine v_icmp_ne (pc := 336) 343 dL_writes_336 rfl (fun hc => ?_) (fun hc => ?_)
          · replace hF := (okB_if hF).2 hc
            refine v_iload (pc := 343) (i := 9) dL_writes_343 rfl ?_
            refine v_bipush (pc := 345) (v := (63 : Int32)) dL_writes_345 rfl ?_
            refine v_icmp_ne (pc := 347) 355 dL_writes_347 rfl (fun hc => ?_) (fun hc => ?_)
            · replace hF := (okB_if hF).2 hc
              refine v_iload (pc := 355) (i := 9) dL_writes_355 rfl ?_
              refine v_bipush (pc := 357) (v := (45 : Int32)) dL_writes_357 rfl ?_
              refine v_icmp_ne (pc := 359) 367 dL_writes_359 rfl (fun hc => ?_) (fun hc => ?_)
              · replace hF := (okB_if hF).2 hc
                refine v_bipush (pc := 367) (v := (63 : Int32)) dL_writes_367 rfl ?_
                refine s_iast (pc := 369) dL_writes_369 hF (fun h18 hF => ?_)
                refine v_iinc (pc := 370) (i := 4) (q11.1 + (1 : Int32)) [some (sr c0), some (si c1), some (sr c2), none, some (si (q11.1 + (1 : Int32))), none, some (si q1.1), none, none, some (si x9), none, none] dL_writes_370 rfl rfl rfl rfl ?_
                refine v_iinc (pc := 373) (i := 6) (q1.1 + (1 : Int32)) [some (sr c0), some (si c1), some (sr c2), none, some (si (q11.1 + (1 : Int32))), none, some (si (q1.1 + (1 : Int32))), none, none, some (si x9), none, none] dL_writes_373 rfl rfl rfl rfl ?_
                refine v_iload (pc := 376) (i := 6) dL_writes_376 rfl ?_
                refine v_istore (pc := 378) (i := 5) [some (sr c0), some (si c1), some (sr c2), none, some (si (q11.1 + (1 : Int32))), some (si (q1.1 + (1 : Int32))), some (si (q1.1 + (1 : Int32))), none, none, some (si x9), none, none] dL_writes_378 (by decide) rfl rfl ?_
                refine v_goto (pc := 380) 6 dL_writes_380 rfl ?_
                exact v_lle [some (sr c0), some (si c1), some (sr c2), none, some (si (q11.1 + (1 : Int32))), some (si (q1.1 + (1 : Int32))), none, none, none, none, none, none] ⟨rfl, rfl, rfl, rfl, rfl, trivial⟩ (hL (q11.1 + (1 : Int32), q1.1 + (1 : Int32), h18) (okB_some hF))
              replace hF := (okB_if hF).1 hc
              refine v_bipush (pc := 362) (v := (36 : Int32)) dL_writes_362 rfl ?_
              refine v_goto (pc := 364) 369 dL_writes_364 rfl ?_
              refine s_iast (pc := 369) dL_writes_369 hF (fun h19 hF => ?_)
              refine v_iinc (pc := 370) (i := 4) (q11.1 + (1 : Int32)) [some (sr c0), some (si c1), some (sr c2), none, some (si (q11.1 + (1 : Int32))), none, some (si q1.1), none, none, some (si x9), none, none] dL_writes_370 rfl rfl rfl rfl ?_
              refine v_iinc (pc := 373) (i := 6) (q1.1 + (1 : Int32)) [some (sr c0), some (si c1), some (sr c2), none, some (si (q11.1 + (1 : Int32))), none, some (si (q1.1 + (1 : Int32))), none, none, some (si x9), none, none] dL_writes_373 rfl rfl rfl rfl ?_
              refine v_iload (pc := 376) (i := 6) dL_writes_376 rfl ?_
              refine v_istore (pc := 378) (i := 5) [some (sr c0), some (si c1), some (sr c2), none, some (si (q11.1 + (1 : Int32))), some (si (q1.1 + (1 : Int32))), some (si (q1.1 + (1 : Int32))), none, none, some (si x9), none, none] dL_writes_378 (by decide) rfl rfl ?_
              refine v_goto (pc := 380) 6 dL_writes_380 rfl ?_
              exact v_lle [some (sr c0), some (si c1), some (sr c2), none, some (si (q11.1 + (1 : Int32))), some (si (q1.1 + (1 : Int32))), none, none, none, none, none, none] ⟨rfl, rfl, rfl, rfl, rfl, trivial⟩ (hL (q11.1 + (1 : Int32), q1.1 + (1 : Int32), h19) (okB_some hF))
            replace hF := (okB_if hF).1 hc
            refine v_bipush (pc := 350) (v := (38 : Int32)) dL_writes_350 rfl ?_
            refine v_goto (pc := 352) 369 dL_writes_352 rfl ?_
            refine s_iast (pc := 369) dL_writes_369 hF (fun h20 hF => ?_)
            refine v_iinc (pc := 370) (i := 4) (q11.1 + (1 : Int32)) [some (sr c0), some (si c1), some (sr c2), none, some (si (q11.1 + (1 : Int32))), none, some (si q1.1), none, none, some (si x9), none, none] dL_writes_370 rfl rfl rfl rfl ?_
            refine v_iinc (pc := 373) (i := 6) (q1.1 + (1 : Int32)) [some (sr c0), some (si c1), some (sr c2), none, some (si (q11.1 + (1 : Int32))), none, some (si (q1.1 + (1 : Int32))), none, none, some (si x9), none, none] dL_writes_373 rfl rfl rfl rfl ?_
            refine v_iload (pc := 376) (i := 6) dL_writes_376 rfl ?_
            refine v_istore (pc := 378) (i := 5) [some (sr c0), some (si c1), some (sr c2), none, some (si (q11.1 + (1 : Int32))), some (si (q1.1 + (1 : Int32))), some (si (q1.1 + (1 : Int32))), none, none, some (si x9), none, none] dL_writes_378 (by decide) rfl rfl ?_
            refine v_goto (pc := 380) 6 dL_writes_380 rfl ?_
            exact v_lle [some (sr c0), some (si c1), some (sr c2), none, some (si (q11.1 + (1 : Int32))), some (si (q1.1 + (1 : Int32))), none, none, none, none, none, none] ⟨rfl, rfl, rfl, rfl, rfl, trivial⟩ (hL (q11.1 + (1 : Int32), q1.1 + (1 : Int32), h20) (okB_some hF))
          replace hF := (okB_if hF).1 hc
          refine v_iconst (pc := 339) (v := (2 : Int32)) dL_writes_339 rfl ?_
          refine v_goto (pc := 340) 369 dL_writes_340 rfl ?_
          refine s_iast (pc := 369) dL_writes_369 hF (fun h21 hF => ?_)
          refine v_iinc (pc := 370) (i := 4) (q11.1 + (1 : Int32)) [some (sr c0), some (si c1), some (sr c2), none, some (si (q11.1 + (1 : Int32))), none, some (si q1.1), none, none, some (si x9), none, none] dL_writes_370 rfl rfl rfl rfl ?_
          refine v_iinc (pc := 373) (i := 6) (q1.1 + (1 : Int32)) [some (sr c0), some (si c1), some (sr c2), none, some (si (q11.1 + (1 : Int32))), none, some (si (q1.1 + (1 : Int32))), none, none, some (si x9), none, none] dL_writes_373 rfl rfl rfl rfl ?_
          refine v_iload (pc := 376) (i := 6) dL_writes_376 rfl ?_
          refine v_istore (pc := 378) (i := 5) [some (sr c0), some (si c1), some (sr c2), none, some (si (q11.1 + (1 : Int32))), some (si (q1.1 + (1 : Int32))), some (si (q1.1 + (1 : Int32))), none, none, some (si x9), none, none] dL_writes_378 (by decide) rfl rfl ?_
          refine v_goto (pc := 380) 6 dL_writes_380 rfl ?_
          exact v_lle [some (sr c0), some (si c1), some (sr c2), none, some (si (q11.1 + (1 : Int32))), some (si (q1.1 + (1 : Int32))), none, none, none, none, none, none] ⟨rfl, rfl, rfl, rfl, rfl, trivial⟩ (hL (q11.1 + (1 : Int32), q1.1 + (1 : Int32), h21) (okB_some hF))
        replace hF := (okB_if hF).1 hc
        refine v_bipush (pc := 327) (v := (50 : Int32)) dL_writes_327 rfl ?_
        refine v_goto (pc := 329) 369 dL_writes_329 rfl ?_
        refine s_iast (pc := 369) dL_writes_369 hF (fun h22 hF => ?_)
        refine v_iinc (pc := 370) (i := 4) (q11.1 + (1 : Int32)) [some (sr c0), some (si c1), some (sr c2), none, some (si (q11.1 + (1 : Int32))), none, some (si q1.1), none, none, some (si x9), none, none] dL_writes_370 rfl rfl rfl rfl ?_
        refine v_iinc (pc := 373) (i := 6) (q1.1 + (1 : Int32)) [some (sr c0), some (si c1), some (sr c2), none, some (si (q11.1 + (1 : Int32))), none, some (si (q1.1 + (1 : Int32))), none, none, some (si x9), none, none] dL_writes_373 rfl rfl rfl rfl ?_
        refine v_iload (pc := 376) (i := 6) dL_writes_376 rfl ?_
        refine v_istore (pc := 378) (i := 5) [some (sr c0), some (si c1), some (sr c2), none, some (si (q11.1 + (1 : Int32))), some (si (q1.1 + (1 : Int32))), some (si (q1.1 + (1 : Int32))), none, none, some (si x9), none, none] dL_writes_378 (by decide) rfl rfl ?_
        refine v_goto (pc := 380) 6 dL_writes_380 rfl ?_
        exact v_lle [some (sr c0), some (si c1), some (sr c2), none, some (si (q11.1 + (1 : Int32))), some (si (q1.1 + (1 : Int32))), none, none, none, none, none, none] ⟨rfl, rfl, rfl, rfl, rfl, trivial⟩ (hL (q11.1 + (1 : Int32), q1.1 + (1 : Int32), h22) (okB_some hF))
      replace hF := (okB_if hF).1 hc
      refine v_iconst (pc := 316) (v := (0 : Int32)) dL_writes_316 rfl ?_
      refine v_goto (pc := 317) 369 dL_writes_317 rfl ?_
      refine s_iast (pc := 369) dL_writes_369 hF (fun h23 hF => ?_)
      refine v_iinc (pc := 370) (i := 4) (q11.1 + (1 : Int32)) [some (sr c0), some (si c1), some (sr c2), none, some (si (q11.1 + (1 : Int32))), none, some (si q1.1), none, none, some (si x9), none, none] dL_writes_370 rfl rfl rfl rfl ?_
      refine v_iinc (pc := 373) (i := 6) (q1.1 + (1 : Int32)) [some (sr c0), some (si c1), some (sr c2), none, some (si (q11.1 + (1 : Int32))), none, some (si (q1.1 + (1 : Int32))), none, none, some (si x9), none, none] dL_writes_373 rfl rfl rfl rfl ?_
      refine v_iload (pc := 376) (i := 6) dL_writes_376 rfl ?_
      refine v_istore (pc := 378) (i := 5) [some (sr c0), some (si c1), some (sr c2), none, some (si (q11.1 + (1 : Int32))), some (si (q1.1 + (1 : Int32))), some (si (q1.1 + (1 : Int32))), none, none, some (si x9), none, none] dL_writes_378 (by decide) rfl rfl ?_
      refine v_goto (pc := 380) 6 dL_writes_380 rfl ?_
      exact v_lle [some (sr c0), some (si c1), some (sr c2), none, some (si (q11.1 + (1 : Int32))), some (si (q1.1 + (1 : Int32))), none, none, none, none, none, none] ⟨rfl, rfl, rfl, rfl, rfl, trivial⟩ (hL (q11.1 + (1 : Int32), q1.1 + (1 : Int32), h23) (okB_some hF))
    replace hF := (okB_if hF).2 hc
    refine v_iload (pc := 295) (i := 9) dL_writes_295 rfl ?_
    refine v_bipush (pc := 297) (v := (39 : Int32)) dL_writes_297 rfl ?_
    refine v_isub (pc := 299) dL_writes_299 ?_
    refine v_bipush (pc := 300) (v := (10 : Int32)) dL_writes_300 rfl ?_
    refine s_irem (pc := 302) dL_writes_302 hF (fun hF => ?_)
    refine cp_S (pc := 303) gI (as := [si ((x9 - (39 : Int32)) - (x9 - (39 : Int32)) / (10 : Int32) * (10 : Int32))]) (st := [si q11.1, sr c2]) (N := mL_points) (k := k) (n := n) (k1 := 0) (n1 := 0) dL_writes_303 lkL_59 caL_points csL_points rfl (fun Q1 hq => tL_points ((x9 - (39 : Int32)) - (x9 - (39 : Int32)) / (10 : Int32) * (10 : Int32)) q11.2 Q1 hq) ⟨by decide, by decide⟩ (Nat.le_of_ble_eq_true rfl) rfl hF (fun x24 hF => ?_)
    show gV G mL_writes 1 Q 306 [some (sr c0), some (si c1), some (sr c2), none, some (si q11.1), none, some (si q1.1), none, none, some (si x9), none, none] [si x24, si q11.1, sr c2] (k) (n) q11.2
    refine v_goto (pc := 306) 369 dL_writes_306 rfl ?_
    refine s_iast (pc := 369) dL_writes_369 hF (fun h25 hF => ?_)
    refine v_iinc (pc := 370) (i := 4) (q11.1 + (1 : Int32)) [some (sr c0), some (si c1), some (sr c2), none, some (si (q11.1 + (1 : Int32))), none, some (si q1.1), none, none, some (si x9), none, none] dL_writes_370 rfl rfl rfl rfl ?_
    refine v_iinc (pc := 373) (i := 6) (q1.1 + (1 : Int32)) [some (sr c0), some (si c1), some (sr c2), none, some (si (q11.1 + (1 : Int32))), none, some (si (q1.1 + (1 : Int32))), none, none, some (si x9), none, none] dL_writes_373 rfl rfl rfl rfl ?_
    refine v_iload (pc := 376) (i := 6) dL_writes_376 rfl ?_
    refine v_istore (pc := 378) (i := 5) [some (sr c0), some (si c1), some (sr c2), none, some (si (q11.1 + (1 : Int32))), some (si (q1.1 + (1 : Int32))), some (si (q1.1 + (1 : Int32))), none, none, some (si x9), none, none] dL_writes_378 (by decide) rfl rfl ?_
    refine v_goto (pc := 380) 6 dL_writes_380 rfl ?_
    exact v_lle [some (sr c0), some (si c1), some (sr c2), none, some (si (q11.1 + (1 : Int32))), some (si (q1.1 + (1 : Int32))), none, none, none, none, none, none] ⟨rfl, rfl, rfl, rfl, rfl, trivial⟩ (hL (q11.1 + (1 : Int32), q1.1 + (1 : Int32), h25) (okB_some hF)))
theorem tL_writes {G : gG} (a0 : (Option Nat)) (a1 : Int32) (a2 : (Option Nat)) (a3 : Int32) (h : hp) (Q : hQ) (hF : okB (fL_writes a0 a1 a2 a3 h) (pH gI Q)) : gS G mL_writes 1 0 0 [sr a0, si a1, sr a2, si a3] h Q := by
  delta fL_writes at hF
  refine gS_at [some (sr a0), some (si a1), some (sr a2), some (si a3), none, none, none, none, none, none, none, none] pl_L rfl (Nat.le_of_ble_eq_true rfl) rfl ?_
  refine v_iload_n (pc := 0) (i := 3) dL_writes_0 rfl rfl ?_
  refine v_istore (pc := 1) (i := 4) [some (sr a0), some (si a1), some (sr a2), some (si a3), some (si a3), none, none, none, none, none, none, none] dL_writes_1 (by decide) rfl rfl ?_
  refine v_iconst (pc := 3) (v := (0 : Int32)) dL_writes_3 rfl ?_
  refine v_istore (pc := 4) (i := 5) [some (sr a0), some (si a1), some (sr a2), some (si a3), some (si a3), some (si (0 : Int32)), none, none, none, none, none, none] dL_writes_4 (by decide) rfl rfl ?_
  refine mg (X := fun q1 => gV G mL_writes 1 Q 383 [none, none, none, none, some (si q1.1), none, none, none, none, none, none, none] [] (0) (0) q1.2) hF (fun _ hj2 hF => v_lle [some (sr a0), some (si a1), some (sr a2), none, some (si a3), some (si (0 : Int32)), none, none, none, none, none, none] ⟨rfl, rfl, rfl, rfl, rfl, trivial⟩ (lL_writes_6 a0 a1 a2 hj2 FU (a3, (0 : Int32), h) hF)) (fun q1 hF => ?_)
  refine v_iload (pc := 383) (i := 4) dL_writes_383 rfl ?_
  exact v_iret (pc := 385) dL_writes_385 rfl rfl (okr hF fun q => q)
