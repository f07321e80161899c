/-! ===== the law's methods over its arrays: their functions and rows ===== -/
theorem dL_commands_0 : decode cL_commands 0 = .ok (.aload_n 0, 1) := by decide +kernel
theorem dL_commands_1 : decode cL_commands 1 = .ok (.iconst 1, 1) := by decide +kernel
theorem dL_commands_2 : decode cL_commands 2 = .ok (.iaload, 1) := by decide +kernel
theorem dL_commands_3 : decode cL_commands 3 = .ok (.istore 4, 2) := by decide +kernel
theorem dL_commands_5 : decode cL_commands 5 = .ok (.iload_n 3, 1) := by decide +kernel
theorem dL_commands_6 : decode cL_commands 6 = .ok (.iconst 1, 1) := by decide +kernel
theorem dL_commands_7 : decode cL_commands 7 = .ok (.if_icmp .ne 17, 3) := by decide +kernel
theorem dL_commands_10 : decode cL_commands 10 = .ok (.aload_n 0, 1) := by decide +kernel
theorem dL_commands_11 : decode cL_commands 11 = .ok (.aload_n 0, 1) := by decide +kernel
theorem dL_commands_12 : decode cL_commands 12 = .ok (.aload_n 1, 1) := by decide +kernel
theorem dL_commands_13 : decode cL_commands 13 = .ok (.iload 4, 2) := by decide +kernel
theorem dL_commands_15 : decode cL_commands 15 = .ok (.invokestatic 77, 3) := by decide +kernel
theorem dL_commands_18 : decode cL_commands 18 = .ok (.invokestatic 80, 3) := by decide +kernel
theorem dL_commands_21 : decode cL_commands 21 = .ok (.goto 307, 3) := by decide +kernel
theorem dL_commands_24 : decode cL_commands 24 = .ok (.iload_n 3, 1) := by decide +kernel
theorem dL_commands_25 : decode cL_commands 25 = .ok (.bipush 8, 2) := by decide +kernel
theorem dL_commands_27 : decode cL_commands 27 = .ok (.if_icmp .ne 17, 3) := by decide +kernel
theorem dL_commands_30 : decode cL_commands 30 = .ok (.aload_n 0, 1) := by decide +kernel
theorem dL_commands_31 : decode cL_commands 31 = .ok (.aload_n 0, 1) := by decide +kernel
theorem dL_commands_32 : decode cL_commands 32 = .ok (.aload_n 1, 1) := by decide +kernel
theorem dL_commands_33 : decode cL_commands 33 = .ok (.iload 4, 2) := by decide +kernel
theorem dL_commands_35 : decode cL_commands 35 = .ok (.invokestatic 67, 3) := by decide +kernel
theorem dL_commands_38 : decode cL_commands 38 = .ok (.invokestatic 80, 3) := by decide +kernel
theorem dL_commands_41 : decode cL_commands 41 = .ok (.goto 287, 3) := by decide +kernel
theorem dL_commands_44 : decode cL_commands 44 = .ok (.iload_n 3, 1) := by decide +kernel
theorem dL_commands_45 : decode cL_commands 45 = .ok (.iconst 4, 1) := by decide +kernel
theorem dL_commands_46 : decode cL_commands 46 = .ok (.if_icmp .ne 19, 3) := by decide +kernel
theorem dL_commands_49 : decode cL_commands 49 = .ok (.aload_n 0, 1) := by decide +kernel
theorem dL_commands_50 : decode cL_commands 50 = .ok (.aload_n 1, 1) := by decide +kernel
theorem dL_commands_51 : decode cL_commands 51 = .ok (.bipush 6, 2) := by decide +kernel
theorem dL_commands_53 : decode cL_commands 53 = .ok (.iload 4, 2) := by decide +kernel
theorem dL_commands_55 : decode cL_commands 55 = .ok (.imul, 1) := by decide +kernel
theorem dL_commands_56 : decode cL_commands 56 = .ok (.iconst 1, 1) := by decide +kernel
theorem dL_commands_57 : decode cL_commands 57 = .ok (.iadd, 1) := by decide +kernel
theorem dL_commands_58 : decode cL_commands 58 = .ok (.iaload, 1) := by decide +kernel
theorem dL_commands_59 : decode cL_commands 59 = .ok (.invokestatic 80, 3) := by decide +kernel
theorem dL_commands_62 : decode cL_commands 62 = .ok (.goto 266, 3) := by decide +kernel
theorem dL_commands_65 : decode cL_commands 65 = .ok (.iload_n 3, 1) := by decide +kernel
theorem dL_commands_66 : decode cL_commands 66 = .ok (.bipush 32, 2) := by decide +kernel
theorem dL_commands_68 : decode cL_commands 68 = .ok (.if_icmp .ne 19, 3) := by decide +kernel
theorem dL_commands_71 : decode cL_commands 71 = .ok (.aload_n 0, 1) := by decide +kernel
theorem dL_commands_72 : decode cL_commands 72 = .ok (.aload_n 0, 1) := by decide +kernel
theorem dL_commands_73 : decode cL_commands 73 = .ok (.aload_n 1, 1) := by decide +kernel
theorem dL_commands_74 : decode cL_commands 74 = .ok (.iload 4, 2) := by decide +kernel
theorem dL_commands_76 : decode cL_commands 76 = .ok (.iconst 0, 1) := by decide +kernel
theorem dL_commands_77 : decode cL_commands 77 = .ok (.iconst 0, 1) := by decide +kernel
theorem dL_commands_78 : decode cL_commands 78 = .ok (.invokestatic 16, 3) := by decide +kernel
theorem dL_commands_81 : decode cL_commands 81 = .ok (.invokestatic 80, 3) := by decide +kernel
theorem dL_commands_84 : decode cL_commands 84 = .ok (.goto 244, 3) := by decide +kernel
theorem dL_commands_87 : decode cL_commands 87 = .ok (.iload_n 3, 1) := by decide +kernel
theorem dL_commands_88 : decode cL_commands 88 = .ok (.iconst 2, 1) := by decide +kernel
theorem dL_commands_89 : decode cL_commands 89 = .ok (.if_icmp .eq 9, 3) := by decide +kernel
theorem dL_commands_92 : decode cL_commands 92 = .ok (.iload_n 3, 1) := by decide +kernel
theorem dL_commands_93 : decode cL_commands 93 = .ok (.bipush 16, 2) := by decide +kernel
theorem dL_commands_95 : decode cL_commands 95 = .ok (.if_icmp .ne 25, 3) := by decide +kernel
theorem dL_commands_98 : decode cL_commands 98 = .ok (.aload_n 0, 1) := by decide +kernel
theorem dL_commands_99 : decode cL_commands 99 = .ok (.aload_n 0, 1) := by decide +kernel
theorem dL_commands_100 : decode cL_commands 100 = .ok (.aload_n 1, 1) := by decide +kernel
theorem dL_commands_101 : decode cL_commands 101 = .ok (.iload_n 3, 1) := by decide +kernel
theorem dL_commands_102 : decode cL_commands 102 = .ok (.iconst 2, 1) := by decide +kernel
theorem dL_commands_103 : decode cL_commands 103 = .ok (.if_icmp .ne 7, 3) := by decide +kernel
theorem dL_commands_106 : decode cL_commands 106 = .ok (.iconst (-1), 1) := by decide +kernel
theorem dL_commands_107 : decode cL_commands 107 = .ok (.goto 4, 3) := by decide +kernel
theorem dL_commands_110 : decode cL_commands 110 = .ok (.iconst 1, 1) := by decide +kernel
theorem dL_commands_111 : decode cL_commands 111 = .ok (.invokestatic 84, 3) := by decide +kernel
theorem dL_commands_114 : decode cL_commands 114 = .ok (.invokestatic 80, 3) := by decide +kernel
theorem dL_commands_117 : decode cL_commands 117 = .ok (.goto 211, 3) := by decide +kernel
theorem dL_commands_120 : decode cL_commands 120 = .ok (.iload_n 3, 1) := by decide +kernel
theorem dL_commands_121 : decode cL_commands 121 = .ok (.bipush 30, 2) := by decide +kernel
theorem dL_commands_123 : decode cL_commands 123 = .ok (.if_icmp .ne 39, 3) := by decide +kernel
theorem dL_commands_126 : decode cL_commands 126 = .ok (.aload_n 0, 1) := by decide +kernel
theorem dL_commands_127 : decode cL_commands 127 = .ok (.aload_n 1, 1) := by decide +kernel
theorem dL_commands_128 : decode cL_commands 128 = .ok (.iconst (-1), 1) := by decide +kernel
theorem dL_commands_129 : decode cL_commands 129 = .ok (.iconst 1, 1) := by decide +kernel
theorem dL_commands_130 : decode cL_commands 130 = .ok (.invokestatic 87, 3) := by decide +kernel
theorem dL_commands_133 : decode cL_commands 133 = .ok (.istore 5, 2) := by decide +kernel
theorem dL_commands_135 : decode cL_commands 135 = .ok (.aload_n 0, 1) := by decide +kernel
theorem dL_commands_136 : decode cL_commands 136 = .ok (.iconst 2, 1) := by decide +kernel
theorem dL_commands_137 : decode cL_commands 137 = .ok (.iload 5, 2) := by decide +kernel
theorem dL_commands_139 : decode cL_commands 139 = .ok (.ifCond .ge 9, 3) := by decide +kernel
theorem dL_commands_142 : decode cL_commands 142 = .ok (.aload_n 0, 1) := by decide +kernel
theorem dL_commands_143 : decode cL_commands 143 = .ok (.iconst 2, 1) := by decide +kernel
theorem dL_commands_144 : decode cL_commands 144 = .ok (.iaload, 1) := by decide +kernel
theorem dL_commands_145 : decode cL_commands 145 = .ok (.goto 7, 3) := by decide +kernel
theorem dL_commands_148 : decode cL_commands 148 = .ok (.iload 5, 2) := by decide +kernel
theorem dL_commands_150 : decode cL_commands 150 = .ok (.iconst 1, 1) := by decide +kernel
theorem dL_commands_151 : decode cL_commands 151 = .ok (.iadd, 1) := by decide +kernel
theorem dL_commands_152 : decode cL_commands 152 = .ok (.iastore, 1) := by decide +kernel
theorem dL_commands_153 : decode cL_commands 153 = .ok (.aload_n 0, 1) := by decide +kernel
theorem dL_commands_154 : decode cL_commands 154 = .ok (.iload 5, 2) := by decide +kernel
theorem dL_commands_156 : decode cL_commands 156 = .ok (.invokestatic 80, 3) := by decide +kernel
theorem dL_commands_159 : decode cL_commands 159 = .ok (.goto 169, 3) := by decide +kernel
theorem dL_commands_162 : decode cL_commands 162 = .ok (.iload_n 3, 1) := by decide +kernel
theorem dL_commands_163 : decode cL_commands 163 = .ok (.sipush 128, 3) := by decide +kernel
theorem dL_commands_166 : decode cL_commands 166 = .ok (.if_icmp .ne 106, 3) := by decide +kernel
theorem dL_commands_169 : decode cL_commands 169 = .ok (.aload_n 1, 1) := by decide +kernel
theorem dL_commands_170 : decode cL_commands 170 = .ok (.iload 4, 2) := by decide +kernel
theorem dL_commands_172 : decode cL_commands 172 = .ok (.invokestatic 74, 3) := by decide +kernel
theorem dL_commands_175 : decode cL_commands 175 = .ok (.ifCond .eq 97, 3) := by decide +kernel
theorem dL_commands_178 : decode cL_commands 178 = .ok (.aload_n 0, 1) := by decide +kernel
theorem dL_commands_179 : decode cL_commands 179 = .ok (.iconst 2, 1) := by decide +kernel
theorem dL_commands_180 : decode cL_commands 180 = .ok (.iload 4, 2) := by decide +kernel
theorem dL_commands_182 : decode cL_commands 182 = .ok (.iconst 1, 1) := by decide +kernel
theorem dL_commands_183 : decode cL_commands 183 = .ok (.iadd, 1) := by decide +kernel
theorem dL_commands_184 : decode cL_commands 184 = .ok (.iastore, 1) := by decide +kernel
theorem dL_commands_185 : decode cL_commands 185 = .ok (.aload_n 1, 1) := by decide +kernel
theorem dL_commands_186 : decode cL_commands 186 = .ok (.bipush 6, 2) := by decide +kernel
theorem dL_commands_188 : decode cL_commands 188 = .ok (.iload 4, 2) := by decide +kernel
theorem dL_commands_190 : decode cL_commands 190 = .ok (.imul, 1) := by decide +kernel
theorem dL_commands_191 : decode cL_commands 191 = .ok (.iconst 5, 1) := by decide +kernel
theorem dL_commands_192 : decode cL_commands 192 = .ok (.iadd, 1) := by decide +kernel
theorem dL_commands_193 : decode cL_commands 193 = .ok (.dup2, 1) := by decide +kernel
theorem dL_commands_194 : decode cL_commands 194 = .ok (.iaload, 1) := by decide +kernel
theorem dL_commands_195 : decode cL_commands 195 = .ok (.aload_n 1, 1) := by decide +kernel
theorem dL_commands_196 : decode cL_commands 196 = .ok (.bipush 6, 2) := by decide +kernel
theorem dL_commands_198 : decode cL_commands 198 = .ok (.iload 4, 2) := by decide +kernel
theorem dL_commands_200 : decode cL_commands 200 = .ok (.imul, 1) := by decide +kernel
theorem dL_commands_201 : decode cL_commands 201 = .ok (.iaload, 1) := by decide +kernel
theorem dL_commands_202 : decode cL_commands 202 = .ok (.iconst 2, 1) := by decide +kernel
theorem dL_commands_203 : decode cL_commands 203 = .ok (.if_icmp .ne 7, 3) := by decide +kernel
theorem dL_commands_206 : decode cL_commands 206 = .ok (.iconst 1, 1) := by decide +kernel
theorem dL_commands_207 : decode cL_commands 207 = .ok (.goto 4, 3) := by decide +kernel
theorem dL_commands_210 : decode cL_commands 210 = .ok (.iconst 0, 1) := by decide +kernel
theorem dL_commands_211 : decode cL_commands 211 = .ok (.iadd, 1) := by decide +kernel
theorem dL_commands_212 : decode cL_commands 212 = .ok (.iastore, 1) := by decide +kernel
theorem dL_commands_213 : decode cL_commands 213 = .ok (.aload_n 1, 1) := by decide +kernel
theorem dL_commands_214 : decode cL_commands 214 = .ok (.bipush 6, 2) := by decide +kernel
theorem dL_commands_216 : decode cL_commands 216 = .ok (.iload 4, 2) := by decide +kernel
theorem dL_commands_218 : decode cL_commands 218 = .ok (.imul, 1) := by decide +kernel
theorem dL_commands_219 : decode cL_commands 219 = .ok (.iconst 3, 1) := by decide +kernel
theorem dL_commands_220 : decode cL_commands 220 = .ok (.iadd, 1) := by decide +kernel
theorem dL_commands_221 : decode cL_commands 221 = .ok (.dup2, 1) := by decide +kernel
theorem dL_commands_222 : decode cL_commands 222 = .ok (.iaload, 1) := by decide +kernel
theorem dL_commands_223 : decode cL_commands 223 = .ok (.aload_n 1, 1) := by decide +kernel
theorem dL_commands_224 : decode cL_commands 224 = .ok (.bipush 6, 2) := by decide +kernel
theorem dL_commands_226 : decode cL_commands 226 = .ok (.iload 4, 2) := by decide +kernel
theorem dL_commands_228 : decode cL_commands 228 = .ok (.imul, 1) := by decide +kernel
theorem dL_commands_229 : decode cL_commands 229 = .ok (.iaload, 1) := by decide +kernel
theorem dL_commands_230 : decode cL_commands 230 = .ok (.iconst 3, 1) := by decide +kernel
theorem dL_commands_231 : decode cL_commands 231 = .ok (.if_icmp .ne 7, 3) := by decide +kernel
theorem dL_commands_234 : decode cL_commands 234 = .ok (.iconst 4, 1) := by decide +kernel
theorem dL_commands_235 : decode cL_commands 235 = .ok (.goto 4, 3) := by decide +kernel
theorem dL_commands_238 : decode cL_commands 238 = .ok (.iconst 0, 1) := by decide +kernel
theorem dL_commands_239 : decode cL_commands 239 = .ok (.ixor, 1) := by decide +kernel
theorem dL_commands_240 : decode cL_commands 240 = .ok (.iastore, 1) := by decide +kernel
theorem dL_commands_241 : decode cL_commands 241 = .ok (.aload_n 0, 1) := by decide +kernel
theorem dL_commands_242 : decode cL_commands 242 = .ok (.iconst 4, 1) := by decide +kernel
theorem dL_commands_243 : decode cL_commands 243 = .ok (.aload_n 1, 1) := by decide +kernel
theorem dL_commands_244 : decode cL_commands 244 = .ok (.bipush 6, 2) := by decide +kernel
theorem dL_commands_246 : decode cL_commands 246 = .ok (.iload 4, 2) := by decide +kernel
theorem dL_commands_248 : decode cL_commands 248 = .ok (.imul, 1) := by decide +kernel
theorem dL_commands_249 : decode cL_commands 249 = .ok (.iaload, 1) := by decide +kernel
theorem dL_commands_250 : decode cL_commands 250 = .ok (.iconst 4, 1) := by decide +kernel
theorem dL_commands_251 : decode cL_commands 251 = .ok (.if_icmp .ne 7, 3) := by decide +kernel
theorem dL_commands_254 : decode cL_commands 254 = .ok (.iconst 1, 1) := by decide +kernel
theorem dL_commands_255 : decode cL_commands 255 = .ok (.goto 4, 3) := by decide +kernel
theorem dL_commands_258 : decode cL_commands 258 = .ok (.iconst 0, 1) := by decide +kernel
theorem dL_commands_259 : decode cL_commands 259 = .ok (.iastore, 1) := by decide +kernel
theorem dL_commands_260 : decode cL_commands 260 = .ok (.aload_n 0, 1) := by decide +kernel
theorem dL_commands_261 : decode cL_commands 261 = .ok (.iconst 5, 1) := by decide +kernel
theorem dL_commands_262 : decode cL_commands 262 = .ok (.iconst 0, 1) := by decide +kernel
theorem dL_commands_263 : decode cL_commands 263 = .ok (.iastore, 1) := by decide +kernel
theorem dL_commands_264 : decode cL_commands 264 = .ok (.aload_n 0, 1) := by decide +kernel
theorem dL_commands_265 : decode cL_commands 265 = .ok (.bipush 6, 2) := by decide +kernel
theorem dL_commands_267 : decode cL_commands 267 = .ok (.iconst 0, 1) := by decide +kernel
theorem dL_commands_268 : decode cL_commands 268 = .ok (.iastore, 1) := by decide +kernel
theorem dL_commands_269 : decode cL_commands 269 = .ok (.goto 59, 3) := by decide +kernel
theorem dL_commands_272 : decode cL_commands 272 = .ok (.iload_n 3, 1) := by decide +kernel
theorem dL_commands_273 : decode cL_commands 273 = .ok (.bipush 7, 2) := by decide +kernel
theorem dL_commands_275 : decode cL_commands 275 = .ok (.if_icmp .ne 25, 3) := by decide +kernel
theorem dL_commands_278 : decode cL_commands 278 = .ok (.aload_n 0, 1) := by decide +kernel
theorem dL_commands_279 : decode cL_commands 279 = .ok (.iconst 3, 1) := by decide +kernel
theorem dL_commands_280 : decode cL_commands 280 = .ok (.aload_n 0, 1) := by decide +kernel
theorem dL_commands_281 : decode cL_commands 281 = .ok (.iconst 3, 1) := by decide +kernel
theorem dL_commands_282 : decode cL_commands 282 = .ok (.iaload, 1) := by decide +kernel
theorem dL_commands_283 : decode cL_commands 283 = .ok (.ifCond .le 12, 3) := by decide +kernel
theorem dL_commands_286 : decode cL_commands 286 = .ok (.aload_n 0, 1) := by decide +kernel
theorem dL_commands_287 : decode cL_commands 287 = .ok (.iconst 3, 1) := by decide +kernel
theorem dL_commands_288 : decode cL_commands 288 = .ok (.iaload, 1) := by decide +kernel
theorem dL_commands_289 : decode cL_commands 289 = .ok (.bipush 10, 2) := by decide +kernel
theorem dL_commands_291 : decode cL_commands 291 = .ok (.isub, 1) := by decide +kernel
theorem dL_commands_292 : decode cL_commands 292 = .ok (.goto 4, 3) := by decide +kernel
theorem dL_commands_295 : decode cL_commands 295 = .ok (.iconst 0, 1) := by decide +kernel
theorem dL_commands_296 : decode cL_commands 296 = .ok (.iastore, 1) := by decide +kernel
theorem dL_commands_297 : decode cL_commands 297 = .ok (.goto 31, 3) := by decide +kernel
theorem dL_commands_300 : decode cL_commands 300 = .ok (.iload_n 3, 1) := by decide +kernel
theorem dL_commands_301 : decode cL_commands 301 = .ok (.bipush 56, 2) := by decide +kernel
theorem dL_commands_303 : decode cL_commands 303 = .ok (.if_icmp .ne 25, 3) := by decide +kernel
theorem dL_commands_306 : decode cL_commands 306 = .ok (.aload_n 0, 1) := by decide +kernel
theorem dL_commands_307 : decode cL_commands 307 = .ok (.iconst 3, 1) := by decide +kernel
theorem dL_commands_308 : decode cL_commands 308 = .ok (.dup2, 1) := by decide +kernel
theorem dL_commands_309 : decode cL_commands 309 = .ok (.iaload, 1) := by decide +kernel
theorem dL_commands_310 : decode cL_commands 310 = .ok (.aload_n 0, 1) := by decide +kernel
theorem dL_commands_311 : decode cL_commands 311 = .ok (.iconst 3, 1) := by decide +kernel
theorem dL_commands_312 : decode cL_commands 312 = .ok (.iaload, 1) := by decide +kernel
theorem dL_commands_313 : decode cL_commands 313 = .ok (.bipush 10, 2) := by decide +kernel
theorem dL_commands_315 : decode cL_commands 315 = .ok (.iadd, 1) := by decide +kernel
theorem dL_commands_316 : decode cL_commands 316 = .ok (.iload_n 2, 1) := by decide +kernel
theorem dL_commands_317 : decode cL_commands 317 = .ok (.if_icmp .ge 8, 3) := by decide +kernel
theorem dL_commands_320 : decode cL_commands 320 = .ok (.bipush 10, 2) := by decide +kernel
theorem dL_commands_322 : decode cL_commands 322 = .ok (.goto 4, 3) := by decide +kernel
theorem dL_commands_325 : decode cL_commands 325 = .ok (.iconst 0, 1) := by decide +kernel
theorem dL_commands_326 : decode cL_commands 326 = .ok (.iadd, 1) := by decide +kernel
theorem dL_commands_327 : decode cL_commands 327 = .ok (.iastore, 1) := by decide +kernel
theorem dL_commands_328 : decode cL_commands 328 = .ok (.return_, 1) := by decide +kernel
abbrev mL_commands : gM := (yL_commands, cL_commands, 6, (Option.none : Option FieldType), [])
theorem caL_commands : cal mL_commands 4 := ⟨xw 914 (by decide +kernel) rfl, xw 28 (by decide +kernel) rfl, by decide, by decide +kernel⟩
theorem csL_commands : Cond.static yL_commands ∈ XW := xw 913 (by decide +kernel) rfl
theorem lkL_84 : Cond.methodLink RL 84 yL_rows ∈ XW := xw 927 (by decide +kernel) rfl
theorem lkL_80 : Cond.methodLink RL 80 yL_goes ∈ XW := xw 924 (by decide +kernel) rfl
theorem lkL_87 : Cond.methodLink RL 87 yL_seeks ∈ XW := xw 933 (by decide +kernel) rfl
theorem lkL_77 : Cond.methodLink RL 77 yL_before ∈ XW := xw 915 (by decide +kernel) rfl
/-! BrailleDeskLaw.commands -/
theorem tL_commands {G : gG} (a0 : (Option Nat)) (a1 : (Option Nat)) (a2 : Int32) (a3 : Int32) (h : hp) (Q : hQ) (hF : okB (fL_commands a0 a1 a2 a3 h) (pH gU Q)) : gS G mL_commands 4 0 0 [sr a0, sr a1, si a2, si a3] h Q := by
  delta fL_commands at hF
  refine gS_at [some (sr a0), some (sr a1), some (si a2), some (si a3), none, none] pl_L rfl (Nat.le_of_ble_eq_true rfl) rfl ?_
  refine v_aload_n (pc := 0) (i := 0) dL_commands_0 rfl rfl ?_
  refine v_iconst (pc := 1) (v := (1 : Int32)) dL_commands_1 rfl ?_
  refine s_iald (pc := 2) dL_commands_2 hF (fun x1 hF => ?_)
  refine v_istore (pc := 3) (i := 4) [some (sr a0), some (sr a1), some (si a2), some (si a3), some (si x1), none] dL_commands_3 (by decide) rfl rfl ?_
  refine v_iload_n (pc := 5) (i := 3) dL_commands_5 rfl rfl ?_
  refine v_iconst (pc := 6) (v := (1 : Int32)) dL_commands_6 rfl ?_
  refine v_icmp_ne (pc := 7) 24 dL_commands_7 rfl (fun hc => ?_) (fun hc => ?_)
  · replace hF := (okB_if hF).2 hc
    refine v_iload_n (pc := 24) (i := 3) dL_commands_24 rfl rfl ?_
    refine v_bipush (pc := 25) (v := (8 : Int32)) dL_commands_25 rfl ?_
    refine v_icmp_ne (pc := 27) 44 dL_commands_27 rfl (fun hc => ?_) (fun hc => ?_)
    · replace hF := (okB_if hF).2 hc
      refine v_iload_n (pc := 44) (i := 3) dL_commands_44 rfl rfl ?_
      refine v_iconst (pc := 45) (v := (4 : Int32)) dL_commands_45 rfl ?_
      refine v_icmp_ne (pc := 46) 65 dL_commands_46 rfl (fun hc => ?_) (fun hc => ?_)
      · replace hF := (okB_if hF).2 hc
        refine v_iload_n (pc := 65) (i := 3) dL_commands_65 rfl rfl ?_
        refine v_bipush (pc := 66) (v := (32 : Int32)) dL_commands_66 rfl ?_
        refine v_icmp_ne (pc := 68) 87 dL_commands_68 rfl (fun hc => ?_) (fun hc => ?_)
        · replace hF := (okB_if hF).2 hc
          refine v_iload_n (pc := 87) (i := 3) dL_commands_87 rfl rfl ?_
          refine v_iconst (pc := 88) (v := (2 : Int32)) dL_commands_88 rfl ?_
          refine v_icmp_eq (pc := 89) 98 dL_commands_89 rfl (fun hc => ?_) (fun hc => ?_)
          · replace hF := (okB_if hF).1 hc
            refine v_aload_n (pc := 98) (i := 0) dL_commands_98 rfl rfl ?_
            refine v_aload_n (pc := 99) (i := 0) dL_commands_99 rfl rfl ?_
            refine v_aload_n (pc := 100) (i := 1) dL_commands_100 rfl rfl ?_
            refine v_iload_n (pc := 101) (i := 3) dL_commands_101 rfl rfl ?_
            refine v_iconst (pc := 102) (v := (2 : Int32)) dL_commands_102 rfl ?_
            refine mg (X := fun q2 => gV G mL_commands 4 Q 111 [none, none, none, none, none, none] [si q2, sr a1, sr a0, sr a0] (0) (0) h) hF (fun _ hj3 hF => ?_) (fun q2 hF => ?_)
            · refine v_icmp_ne (pc := 103) 110 dL_commands_103 rfl (fun hc => ?_) (fun hc => ?_)
              · replace hF := (okB_if hF).2 hc
                refine v_iconst (pc := 110) (v := (1 : Int32)) dL_commands_110 rfl ?_
                exact v_lle [none, none, none, none, none, none] trivial (hj3 (1 : Int32) (okB_some hF))
              replace hF := (okB_if hF).1 hc
              refine v_iconst (pc := 106) (v := (-1 : Int32)) dL_commands_106 rfl ?_
              refine v_goto (pc := 107) 111 dL_commands_107 rfl ?_
              exact v_lle [none, none, none, none, none, none] trivial (hj3 (-1 : Int32) (okB_some hF))
            refine cp_S (pc := 111) gI (as := [sr a0, sr a1, si q2]) (st := [sr a0]) (N := mL_rows) (k := 0) (n := 0) (k1 := 0) (n1 := 0) dL_commands_111 lkL_84 caL_rows csL_rows rfl (fun Q1 hq => tL_rows a0 a1 q2 h Q1 hq) ⟨by decide, by decide⟩ (Nat.le_of_ble_eq_true rfl) rfl hF (fun x4 hF => ?_)
            show gV G mL_commands 4 Q 114 [none, none, none, none, none, none] [si x4, sr a0] (0) (0) h
            refine ch_S (pc := 114) gU (as := [sr a0, si x4]) (st := []) (N := mL_goes) (k := 0) (n := 0) (k1 := 0) (n1 := 0) dL_commands_114 lkL_80 caL_goes csL_goes rfl (fun Q1 hq => tL_goes a0 x4 h Q1 hq) ⟨by decide, by decide⟩ (Nat.le_of_ble_eq_true rfl) rfl hF (fun x5 h6 hF => ?_)
            show gV G mL_commands 4 Q 117 [none, none, none, none, none, none] [] (0) (0) h6
            refine v_goto (pc := 117) 328 dL_commands_117 rfl ?_
            exact v_ret (pc := 328) dL_commands_328 rfl (okr hF fun q => q)
          replace hF := (okB_if hF).2 hc
          refine v_iload_n (pc := 92) (i := 3) dL_commands_92 rfl rfl ?_
          refine v_bipush (pc := 93) (v := (16 : Int32)) dL_commands_93 rfl ?_
          refine v_icmp_ne (pc := 95) 120 dL_commands_95 rfl (fun hc => ?_) (fun hc => ?_)
          · replace hF := (okB_if hF).2 hc
            refine v_iload_n (pc := 120) (i := 3) dL_commands_120 rfl rfl ?_
            refine v_bipush (pc := 121) (v := (30 : Int32)) dL_commands_121 rfl ?_
            refine v_icmp_ne (pc := 123) 162 dL_commands_123 rfl (fun hc => ?_) (fun hc => ?_)
            · replace hF := (okB_if hF).2 hc
              refine v_iload_n (pc := 162) (i := 3) dL_commands_162 rfl rfl ?_
              refine v_sipush (pc := 163) (v := (128 : Int32)) dL_commands_163 rfl ?_
              refine v_icmp_ne (pc := 166) 272 dL_commands_166 rfl (fun hc => ?_) (fun hc => ?_)
              · replace hF := (okB_if hF).2 hc
                refine v_iload_n (pc := 272) (i := 3) dL_commands_272 rfl rfl ?_
                refine v_bipush (pc := 273) (v := (7 : Int32)) dL_commands_273 rfl ?_
                refine v_icmp_ne (pc := 275) 300 dL_commands_275 rfl (fun hc => ?_) (fun hc => ?_)
                · replace hF := (okB_if hF).2 hc
                  refine v_iload_n (pc := 300) (i := 3) dL_commands_300 rfl rfl ?_
                  refine v_bipush (pc := 301) (v := (56 : Int32)) dL_commands_301 rfl ?_
                  refine v_icmp_ne (pc := 303) 328 dL_commands_303 rfl (fun hc => ?_) (fun hc => ?_)
                  · replace hF := (okB_if hF).2 hc
                    exact v_ret (pc := 328) dL_commands_328 rfl (okr hF fun q => q)
                  replace hF := (okB_if hF).1 hc
                  refine v_aload_n (pc := 306) (i := 0) dL_commands_306 rfl rfl ?_
                  refine v_iconst (pc := 307) (v := (3 : Int32)) dL_commands_307 rfl ?_
                  refine v_dup2 (pc := 308) dL_commands_308 rfl rfl ?_
                  refine s_iald (pc := 309) dL_commands_309 hF (fun x7 hF => ?_)
                  refine v_aload_n (pc := 310) (i := 0) dL_commands_310 rfl rfl ?_
                  refine v_iconst (pc := 311) (v := (3 : Int32)) dL_commands_311 rfl ?_
                  refine s_iald (pc := 312) dL_commands_312 hF (fun x8 hF => ?_)
                  refine v_bipush (pc := 313) (v := (10 : Int32)) dL_commands_313 rfl ?_
                  refine v_iadd (pc := 315) dL_commands_315 ?_
                  refine v_iload_n (pc := 316) (i := 2) dL_commands_316 rfl rfl ?_
                  refine v_icmp_ge (pc := 317) 325 dL_commands_317 rfl (fun hc => ?_) (fun hc => ?_)
                  · replace hF := (okB_if hF).1 hc
                    refine v_iconst (pc := 325) (v := (0 : Int32)) dL_commands_325 rfl ?_
                    refine v_iadd (pc := 326) dL_commands_326 ?_
                    refine s_iast (pc := 327) dL_commands_327 hF (fun h9 hF => ?_)
                    exact v_ret (pc := 328) dL_commands_328 rfl (okr hF fun q => q)
                  replace hF := (okB_if hF).2 hc
                  refine v_bipush (pc := 320) (v := (10 : Int32)) dL_commands_320 rfl ?_
                  refine v_goto (pc := 322) 326 dL_commands_322 rfl ?_
                  refine v_iadd (pc := 326) dL_commands_326 ?_
                  refine s_iast (pc := 327) dL_commands_327 hF (fun h10 hF => ?_)
                  exact v_ret (pc := 328) dL_commands_328 rfl (okr hF fun q => q)
                replace hF := (okB_if hF).1 hc
                refine v_aload_n (pc := 278) (i := 0) dL_commands_278 rfl rfl ?_
                refine v_iconst (pc := 279) (v := (3 : Int32)) dL_commands_279 rfl ?_
                refine v_aload_n (pc := 280) (i := 0) dL_commands_280 rfl rfl ?_
                refine v_iconst (pc := 281) (v := (3 : Int32)) dL_commands_281 rfl ?_
                refine s_iald (pc := 282) dL_commands_282 hF (fun x11 hF => ?_)
                refine v_if_le (pc := 283) 295 dL_commands_283 rfl (fun hc => ?_) (fun hc => ?_)
                · replace hF := (okB_if hF).1 hc
                  refine v_iconst (pc := 295) (v := (0 : Int32)) dL_commands_295 rfl ?_
                  refine s_iast (pc := 296) dL_commands_296 hF (fun h12 hF => ?_)
                  refine v_goto (pc := 297) 328 dL_commands_297 rfl ?_
                  exact v_ret (pc := 328) dL_commands_328 rfl (okr hF fun q => q)
                replace hF := (okB_if hF).2 hc
                refine v_aload_n (pc := 286) (i := 0) dL_commands_286 rfl rfl ?_
                refine v_iconst (pc := 287) (v := (3 : Int32)) dL_commands_287 rfl ?_
                refine s_iald (pc := 288) dL_commands_288 hF (fun x13 hF => ?_)
                refine v_bipush (pc := 289) (v := (10 : Int32)) dL_commands_289 rfl ?_
                refine v_isub (pc := 291) dL_commands_291 ?_
                refine v_goto (pc := 292) 296 dL_commands_292 rfl ?_
                refine s_iast (pc := 296) dL_commands_296 hF (fun h14 hF => ?_)
                refine v_goto (pc := 297) 328 dL_commands_297 rfl ?_
                exact v_ret (pc := 328) dL_commands_328 rfl (okr hF fun q => q)
              replace hF := (okB_if hF).1 hc
              refine v_aload_n (pc := 169) (i := 1) dL_commands_169 rfl rfl ?_
              refine v_iload (pc := 170) (i := 4) dL_commands_170 rfl ?_
              refine cp_S (pc := 172) gI (as := [sr a1, si x1]) (st := []) (N := mL_canFocus) (k := 0) (n := 0) (k1 := 0) (n1 := 0) dL_commands_172 lkL_74 caL_canFocus csL_canFocus rfl (fun Q1 hq => tL_canFocus a1 x1 h Q1 hq) ⟨by decide, by decide⟩ (Nat.le_of_ble_eq_true rfl) rfl hF (fun x15 hF => ?_)
              show gV G mL_commands 4 Q 175 [some (sr a0), some (sr a1), some (si a2), some (si a3), some (si x1), none] [si x15] (0) (0) h
              refine v_if_eq (pc := 175) 272 dL_commands_175 rfl (fun hc => ?_) (fun hc => ?_)
              · replace hF := (okB_if hF).1 hc
                refine v_iload_n (pc := 272) (i := 3) dL_commands_272 rfl rfl ?_
                refine v_bipush (pc := 273) (v := (7 : Int32)) dL_commands_273 rfl ?_
                refine v_icmp_ne (pc := 275) 300 dL_commands_275 rfl (fun hc => ?_) (fun hc => ?_)
                · replace hF := (okB_if hF).2 hc
                  refine v_iload_n (pc := 300) (i := 3) dL_commands_300 rfl rfl ?_
                  refine v_bipush (pc := 301) (v := (56 : Int32)) dL_commands_301 rfl ?_
                  refine v_icmp_ne (pc := 303) 328 dL_commands_303 rfl (fun hc => ?_) (fun hc => ?_)
                  · replace hF := (okB_if hF).2 hc
                    exact v_ret (pc := 328) dL_commands_328 rfl (okr hF fun q => q)
                  replace hF := (okB_if hF).1 hc
                  refine v_aload_n (pc := 306) (i := 0) dL_commands_306 rfl rfl ?_
                  refine v_iconst (pc := 307) (v := (3 : Int32)) dL_commands_307 rfl ?_
                  refine v_dup2 (pc := 308) dL_commands_308 rfl rfl ?_
                  refine s_iald (pc := 309) dL_commands_309 hF (fun x16 hF => ?_)
                  refine v_aload_n (pc := 310) (i := 0) dL_commands_310 rfl rfl ?_
                  refine v_iconst (pc := 311) (v := (3 : Int32)) dL_commands_311 rfl ?_
                  refine s_iald (pc := 312) dL_commands_312 hF (fun x17 hF => ?_)
                  refine v_bipush (pc := 313) (v := (10 : Int32)) dL_commands_313 rfl ?_
                  refine v_iadd (pc := 315) dL_commands_315 ?_
                  refine v_iload_n (pc := 316) (i := 2) dL_commands_316 rfl rfl ?_
                  refine v_icmp_ge (pc := 317) 325 dL_commands_317 rfl (fun hc => ?_) (fun hc => ?_)
                  · replace hF := (okB_if hF).1 hc
                    refine v_iconst (pc := 325) (v := (0 : Int32)) dL_commands_325 rfl ?_
                    refine v_iadd (pc := 326) dL_commands_326 ?_
                    refine s_iast (pc := 327) dL_commands_327 hF (fun h18 hF => ?_)
                    exact v_ret (pc := 328) dL_commands_328 rfl (okr hF fun q => q)
                  replace hF := (okB_if hF).2 hc
                  refine v_bipush (pc := 320) (v := (10 : Int32)) dL_commands_320 rfl ?_
                  refine v_goto (pc := 322) 326 dL_commands_322 rfl ?_
                  refine v_iadd (pc := 326) dL_commands_326 ?_
                  refine s_iast (pc := 327) dL_commands_327 hF (fun h19 hF => ?_)
                  exact v_ret (pc := 328) dL_commands_328 rfl (okr hF fun q => q)
                replace hF := (okB_if hF).1 hc
                refine v_aload_n (pc := 278) (i := 0) dL_commands_278 rfl rfl ?_
                refine v_iconst (pc := 279) (v := (3 : Int32)) dL_commands_279 rfl ?_
                refine v_aload_n (pc := 280) (i := 0) dL_commands_280 rfl rfl ?_
                refine v_iconst (pc := 281) (v := (3 : Int32)) dL_commands_281 rfl ?_
                refine s_iald (pc := 282) dL_commands_282 hF (fun x20 hF => ?_)
                refine v_if_le (pc := 283) 295 dL_commands_283 rfl (fun hc => ?_) (fun hc => ?_)
                · replace hF := (okB_if hF).1 hc
                  refine v_iconst (pc := 295) (v := (0 : Int32)) dL_commands_295 rfl ?_
                  refine s_iast (pc := 296) dL_commands_296 hF (fun h21 hF => ?_)
                  refine v_goto (pc := 297) 328 dL_commands_297 rfl ?_
                  exact v_ret (pc := 328) dL_commands_328 rfl (okr hF fun q => q)
                replace hF := (okB_if hF).2 hc
                refine v_aload_n (pc := 286) (i := 0) dL_commands_286 rfl rfl ?_
                refine v_iconst (pc := 287) (v := (3 : Int32)) dL_commands_287 rfl ?_
                refine s_iald (pc := 288) dL_commands_288 hF (fun x22 hF => ?_)
                refine v_bipush (pc := 289) (v := (10 : Int32)) dL_commands_289 rfl ?_
                refine v_isub (pc := 291) dL_commands_291 ?_
                refine v_goto (pc := 292) 296 dL_commands_292 rfl ?_
                refine s_iast (pc := 296) dL_commands_296 hF (fun h23 hF => ?_)
                refine v_goto (pc := 297) 328 dL_commands_297 rfl ?_
                exact v_ret (pc := 328) dL_commands_328 rfl (okr hF fun q => q)
              replace hF := (okB_if hF).2 hc
              refine v_aload_n (pc := 178) (i := 0) dL_commands_178 rfl rfl ?_
              refine v_iconst (pc := 179) (v := (2 : Int32)) dL_commands_179 rfl ?_
              refine v_iload (pc := 180) (i := 4) dL_commands_180 rfl ?_
              refine v_iconst (pc := 182) (v := (1 : Int32)) dL_commands_182 rfl ?_
              refine v_iadd (pc := 183) dL_commands_183 ?_
              refine s_iast (pc := 184) dL_commands_184 hF (fun h24 hF => ?_)
              refine v_aload_n (pc := 185) (i := 1) dL_commands_185 rfl rfl ?_
              refine v_bipush (pc := 186) (v := (6 : Int32)) dL_commands_186 rfl ?_
              refine v_iload (pc := 188) (i := 4) dL_commands_188 rfl ?_
              refine v_imul (pc := 190) dL_commands_190 ?_
              refine v_iconst (pc := 191) (v := (5 : Int32)) dL_commands_191 rfl ?_
              refine v_iadd (pc := 192) dL_commands_192 ?_
              refine v_dup2 (pc := 193) dL_commands_193 rfl rfl ?_
              refine s_iald (pc := 194) dL_commands_194 hF (fun x25 hF => ?_)
              refine v_aload_n (pc := 195) (i := 1) dL_commands_195 rfl rfl ?_
              refine v_bipush (pc := 196) (v := (6 : Int32)) dL_commands_196 rfl ?_
              refine v_iload (pc := 198) (i := 4) dL_commands_198 rfl ?_
              refine v_imul (pc := 200) dL_commands_200 ?_
              refine s_iald (pc := 201) dL_commands_201 hF (fun x26 hF => ?_)
              refine v_iconst (pc := 202) (v := (2 : Int32)) dL_commands_202 rfl ?_
              refine mg (X := fun q27 => gV G mL_commands 4 Q 211 [some (sr a0), some (sr a1), none, none, some (si x1), none] [si q27, si x25, si (((6 : Int32) * x1) + (5 : Int32)), sr a1] (0) (0) h24) hF (fun _ hj28 hF => ?_) (fun q27 hF => ?_)
              · refine v_icmp_ne (pc := 203) 210 dL_commands_203 rfl (fun hc => ?_) (fun hc => ?_)
                · replace hF := (okB_if hF).2 hc
                  refine v_iconst (pc := 210) (v := (0 : Int32)) dL_commands_210 rfl ?_
                  exact v_lle [some (sr a0), some (sr a1), none, none, some (si x1), none] ⟨rfl, rfl, rfl, trivial⟩ (hj28 (0 : Int32) (okB_some hF))
                replace hF := (okB_if hF).1 hc
                refine v_iconst (pc := 206) (v := (1 : Int32)) dL_commands_206 rfl ?_
                refine v_goto (pc := 207) 211 dL_commands_207 rfl ?_
                exact v_lle [some (sr a0), some (sr a1), none, none, some (si x1), none] ⟨rfl, rfl, rfl, trivial⟩ (hj28 (1 : Int32) (okB_some hF))
              refine v_iadd (pc := 211) dL_commands_211 ?_
              refine s_iast (pc := 212) dL_commands_212 hF (fun h29 hF => ?_)
              refine v_aload_n (pc := 213) (i := 1) dL_commands_213 rfl rfl ?_
              refine v_bipush (pc := 214) (v := (6 : Int32)) dL_commands_214 rfl ?_
              refine v_iload (pc := 216) (i := 4) dL_commands_216 rfl ?_
              refine v_imul (pc := 218) dL_commands_218 ?_
              refine v_iconst (pc := 219) (v := (3 : Int32)) dL_commands_219 rfl ?_
              refine v_iadd (pc := 220) dL_commands_220 ?_
              refine v_dup2 (pc := 221) dL_commands_221 rfl rfl ?_
              refine s_iald (pc := 222) dL_commands_222 hF (fun x30 hF => ?_)
              refine v_aload_n (pc := 223) (i := 1) dL_commands_223 rfl rfl ?_
              refine v_bipush (pc := 224) (v := (6 : Int32)) dL_commands_224 rfl ?_
              refine v_iload (pc := 226) (i := 4) dL_commands_226 rfl ?_
              refine v_imul (pc := 228) dL_commands_228 ?_
              refine s_iald (pc := 229) dL_commands_229 hF (fun x31 hF => ?_)
              refine v_iconst (pc := 230) (v := (3 : Int32)) dL_commands_230 rfl ?_
              refine mg (X := fun q32 => gV G mL_commands 4 Q 239 [some (sr a0), some (sr a1), none, none, some (si x1), none] [si q32, si x30, si (((6 : Int32) * x1) + (3 : Int32)), sr a1] (0) (0) h29) hF (fun _ hj33 hF => ?_) (fun q32 hF => ?_)
              · refine v_icmp_ne (pc := 231) 238 dL_commands_231 rfl (fun hc => ?_) (fun hc => ?_)
                · replace hF := (okB_if hF).2 hc
                  refine v_iconst (pc := 238) (v := (0 : Int32)) dL_commands_238 rfl ?_
                  exact v_lle [some (sr a0), some (sr a1), none, none, some (si x1), none] ⟨rfl, rfl, rfl, trivial⟩ (hj33 (0 : Int32) (okB_some hF))
                replace hF := (okB_if hF).1 hc
                refine v_iconst (pc := 234) (v := (4 : Int32)) dL_commands_234 rfl ?_
                refine v_goto (pc := 235) 239 dL_commands_235 rfl ?_
                exact v_lle [some (sr a0), some (sr a1), none, none, some (si x1), none] ⟨rfl, rfl, rfl, trivial⟩ (hj33 (4 : Int32) (okB_some hF))
              refine v_ixor (pc := 239) dL_commands_239 ?_
              refine s_iast (pc := 240) dL_commands_240 hF (fun h34 hF => ?_)
              refine v_aload_n (pc := 241) (i := 0) dL_commands_241 rfl rfl ?_
              refine v_iconst (pc := 242) (v := (4 : Int32)) dL_commands_242 rfl ?_
              refine v_aload_n (pc := 243) (i := 1) dL_commands_243 rfl rfl ?_
              refine v_bipush (pc := 244) (v := (6 : Int32)) dL_commands_244 rfl ?_
              refine v_iload (pc := 246) (i := 4) dL_commands_246 rfl ?_
              refine v_imul (pc := 248) dL_commands_248 ?_
              refine s_iald (pc := 249) dL_commands_249 hF (fun x35 hF => ?_)
              refine v_iconst (pc := 250) (v := (4 : Int32)) dL_commands_250 rfl ?_
              refine mg (X := fun q36 => gV G mL_commands 4 Q 259 [some (sr a0), none, none, none, none, none] [si q36, si (4 : Int32), sr a0] (0) (0) h34) hF (fun _ hj37 hF => ?_) (fun q36 hF => ?_)
              · refine v_icmp_ne (pc := 251) 258 dL_commands_251 rfl (fun hc => ?_) (fun hc => ?_)
                · replace hF := (okB_if hF).2 hc
                  refine v_iconst (pc := 258) (v := (0 : Int32)) dL_commands_258 rfl ?_
                  exact v_lle [some (sr a0), none, none, none, none, none] ⟨rfl, trivial⟩ (hj37 (0 : Int32) (okB_some hF))
                replace hF := (okB_if hF).1 hc
                refine v_iconst (pc := 254) (v := (1 : Int32)) dL_commands_254 rfl ?_
                refine v_goto (pc := 255) 259 dL_commands_255 rfl ?_
                exact v_lle [some (sr a0), none, none, none, none, none] ⟨rfl, trivial⟩ (hj37 (1 : Int32) (okB_some hF))
              refine s_iast (pc := 259) dL_commands_259 hF (fun h38 hF => ?_)
              refine v_aload_n (pc := 260) (i := 0) dL_commands_260 rfl rfl ?_
              refine v_iconst (pc := 261) (v := (5 : Int32)) dL_commands_261 rfl ?_
              refine v_iconst (pc := 262) (v := (0 : Int32)) dL_commands_262 rfl ?_
              refine s_iast (pc := 263) dL_commands_263 hF (fun h39 hF => ?_)
              refine v_aload_n (pc := 264) (i := 0) dL_commands_264 rfl rfl ?_
              refine v_bipush (pc := 265) (v := (6 : Int32)) dL_commands_265 rfl ?_
              refine v_iconst (pc := 267) (v := (0 : Int32)) dL_commands_267 rfl ?_
              refine s_iast (pc := 268) dL_commands_268 hF (fun h40 hF => ?_)
              refine v_goto (pc := 269) 328 dL_commands_269 rfl ?_
              exact v_ret (pc := 328) dL_commands_328 rfl (okr hF fun q => q)
            replace hF := (okB_if hF).1 hc
            refine v_aload_n (pc := 126) (i := 0) dL_commands_126 rfl rfl ?_
            refine v_aload_n (pc := 127) (i := 1) dL_commands_127 rfl rfl ?_
            refine v_iconst (pc := 128) (v := (-1 : Int32)) dL_commands_128 rfl ?_
            refine v_iconst (pc := 129) (v := (1 : Int32)) dL_commands_129 rfl ?_
            refine cp_S (pc := 130) gI (as := [sr a0, sr a1, si (-1 : Int32), si (1 : Int32)]) (st := []) (N := mL_seeks) (k := 0) (n := 0) (k1 := 0) (n1 := 0) dL_commands_130 lkL_87 caL_seeks csL_seeks rfl (fun Q1 hq => tL_seeks a0 a1 (-1 : Int32) (1 : Int32) h Q1 hq) ⟨by decide, by decide⟩ (Nat.le_of_ble_eq_true rfl) rfl hF (fun x41 hF => ?_)
            show gV G mL_commands 4 Q 133 [some (sr a0), some (sr a1), some (si a2), some (si a3), some (si x1), none] [si x41] (0) (0) h
            refine v_istore (pc := 133) (i := 5) [some (sr a0), some (sr a1), some (si a2), some (si a3), some (si x1), some (si x41)] dL_commands_133 (by decide) rfl rfl ?_
            refine v_aload_n (pc := 135) (i := 0) dL_commands_135 rfl rfl ?_
            refine v_iconst (pc := 136) (v := (2 : Int32)) dL_commands_136 rfl ?_
            refine v_iload (pc := 137) (i := 5) dL_commands_137 rfl ?_
            refine mg (X := fun q42 => gV G mL_commands 4 Q 152 [some (sr a0), none, none, none, none, some (si x41)] [si q42, si (2 : Int32), sr a0] (0) (0) h) hF (fun _ hj43 hF => ?_) (fun q42 hF => ?_)
            · refine v_if_ge (pc := 139) 148 dL_commands_139 rfl (fun hc => ?_) (fun hc => ?_)
              · replace hF := (okB_if hF).1 hc
                refine v_iload (pc := 148) (i := 5) dL_commands_148 rfl ?_
                refine v_iconst (pc := 150) (v := (1 : Int32)) dL_commands_150 rfl ?_
                refine v_iadd (pc := 151) dL_commands_151 ?_
                exact v_lle [some (sr a0), none, none, none, none, some (si x41)] ⟨rfl, rfl, trivial⟩ (hj43 (x41 + (1 : Int32)) (okB_some hF))
              replace hF := (okB_if hF).2 hc
              refine v_aload_n (pc := 142) (i := 0) dL_commands_142 rfl rfl ?_
              refine v_iconst (pc := 143) (v := (2 : Int32)) dL_commands_143 rfl ?_
              refine s_iald (pc := 144) dL_commands_144 hF (fun x44 hF => ?_)
              refine v_goto (pc := 145) 152 dL_commands_145 rfl ?_
              exact v_lle [some (sr a0), none, none, none, none, some (si x41)] ⟨rfl, rfl, trivial⟩ (hj43 x44 (okB_some hF))
            refine s_iast (pc := 152) dL_commands_152 hF (fun h45 hF => ?_)
            refine v_aload_n (pc := 153) (i := 0) dL_commands_153 rfl rfl ?_
            refine v_iload (pc := 154) (i := 5) dL_commands_154 rfl ?_
            refine ch_S (pc := 156) gU (as := [sr a0, si x41]) (st := []) (N := mL_goes) (k := 0) (n := 0) (k1 := 0) (n1 := 0) dL_commands_156 lkL_80 caL_goes csL_goes rfl (fun Q1 hq => tL_goes a0 x41 h45 Q1 hq) ⟨by decide, by decide⟩ (Nat.le_of_ble_eq_true rfl) rfl hF (fun x46 h47 hF => ?_)
            show gV G mL_commands 4 Q 159 [some (sr a0), none, none, none, none, some (si x41)] [] (0) (0) h47
            refine v_goto (pc := 159) 328 dL_commands_159 rfl ?_
            exact v_ret (pc := 328) dL_commands_328 rfl (okr hF fun q => q)
          replace hF := (okB_if hF).1 hc
          refine v_aload_n (pc := 98) (i := 0) dL_commands_98 rfl rfl ?_
          refine v_aload_n (pc := 99) (i := 0) dL_commands_99 rfl rfl ?_
          refine v_aload_n (pc := 100) (i := 1) dL_commands_100 rfl rfl ?_
          refine v_iload_n (pc := 101) (i := 3) dL_commands_101 rfl rfl ?_
          refine v_iconst (pc := 102) (v := (2 : Int32)) dL_commands_102 rfl ?_
          refine mg (X := fun q48 => gV G mL_commands 4 Q 111 [none, none, none, none, none, none] [si q48, sr a1, sr a0, sr a0] (0) (0) h) hF (fun _ hj49 hF => ?_) (fun q48 hF => ?_)
          · refine v_icmp_ne (pc := 103) 110 dL_commands_103 rfl (fun hc => ?_) (fun hc => ?_)
            · replace hF := (okB_if hF).2 hc
              refine v_iconst (pc := 110) (v := (1 : Int32)) dL_commands_110 rfl ?_
              exact v_lle [none, none, none, none, none, none] trivial (hj49 (1 : Int32) (okB_some hF))
            replace hF := (okB_if hF).1 hc
            refine v_iconst (pc := 106) (v := (-1 : Int32)) dL_commands_106 rfl ?_
            refine v_goto (pc := 107) 111 dL_commands_107 rfl ?_
            exact v_lle [none, none, none, none, none, none] trivial (hj49 (-1 : Int32) (okB_some hF))
          refine cp_S (pc := 111) gI (as := [sr a0, sr a1, si q48]) (st := [sr a0]) (N := mL_rows) (k := 0) (n := 0) (k1 := 0) (n1 := 0) dL_commands_111 lkL_84 caL_rows csL_rows rfl (fun Q1 hq => tL_rows a0 a1 q48 h Q1 hq) ⟨by decide, by decide⟩ (Nat.le_of_ble_eq_true rfl) rfl hF (fun x50 hF => ?_)
          show gV G mL_commands 4 Q 114 [none, none, none, none, none, none] [si x50, sr a0] (0) (0) h
          refine ch_S (pc := 114) gU (as := [sr a0, si x50]) (st := []) (N := mL_goes) (k := 0) (n := 0) (k1 := 0) (n1 := 0) dL_commands_114 lkL_80 caL_goes csL_goes rfl (fun Q1 hq => tL_goes a0 x50 h Q1 hq) ⟨by decide, by decide⟩ (Nat.le_of_ble_eq_true rfl) rfl hF (fun x51 h52 hF => ?_)
          show gV G mL_commands 4 Q 117 [none, none, none, none, none, none] [] (0) (0) h52
          refine v_goto (pc := 117) 328 dL_commands_117 rfl ?_
          exact v_ret (pc := 328) dL_commands_328 rfl (okr hF fun q => q)
        replace hF := (okB_if hF).1 hc
        refine v_aload_n (pc := 71) (i := 0) dL_commands_71 rfl rfl ?_
        refine v_aload_n (pc := 72) (i := 0) dL_commands_72 rfl rfl ?_
        refine v_aload_n (pc := 73) (i := 1) dL_commands_73 rfl rfl ?_
        refine v_iload (pc := 74) (i := 4) dL_commands_74 rfl ?_
        refine v_iconst (pc := 76) (v := (0 : Int32)) dL_commands_76 rfl ?_
        refine v_iconst (pc := 77) (v := (0 : Int32)) dL_commands_77 rfl ?_
        refine cp_S (pc := 78) gI (as := [sr a0, sr a1, si x1, si (0 : Int32), si (0 : Int32)]) (st := [sr a0]) (N := mL_kid) (k := 0) (n := 0) (k1 := 0) (n1 := 0) dL_commands_78 lkL_16 caL_kid csL_kid rfl (fun Q1 hq => tL_kid a0 a1 x1 (0 : Int32) (0 : Int32) h Q1 hq) ⟨by decide, by decide⟩ (Nat.le_of_ble_eq_true rfl) rfl hF (fun x53 hF => ?_)
        show gV G mL_commands 4 Q 81 [some (sr a0), some (sr a1), some (si a2), some (si a3), some (si x1), none] [si x53, sr a0] (0) (0) h
        refine ch_S (pc := 81) gU (as := [sr a0, si x53]) (st := []) (N := mL_goes) (k := 0) (n := 0) (k1 := 0) (n1 := 0) dL_commands_81 lkL_80 caL_goes csL_goes rfl (fun Q1 hq => tL_goes a0 x53 h Q1 hq) ⟨by decide, by decide⟩ (Nat.le_of_ble_eq_true rfl) rfl hF (fun x54 h55 hF => ?_)
        show gV G mL_commands 4 Q 84 [some (sr a0), some (sr a1), some (si a2), some (si a3), some (si x1), none] [] (0) (0) h55
        refine v_goto (pc := 84) 328 dL_commands_84 rfl ?_
        exact v_ret (pc := 328) dL_commands_328 rfl (okr hF fun q => q)
      replace hF := (okB_if hF).1 hc
      refine v_aload_n (pc := 49) (i := 0) dL_commands_49 rfl rfl ?_
      refine v_aload_n (pc := 50) (i := 1) dL_commands_50 rfl rfl ?_
      refine v_bipush (pc := 51) (v := (6 : Int32)) dL_commands_51 rfl ?_
      refine v_iload (pc := 53) (i := 4) dL_commands_53 rfl ?_
      refine v_imul (pc := 55) dL_commands_55 ?_
      refine v_iconst (pc := 56) (v := (1 : Int32)) dL_commands_56 rfl ?_
      refine v_iadd (pc := 57) dL_commands_57 ?_
      refine s_iald (pc := 58) dL_commands_58 hF (fun x56 hF => ?_)
      refine ch_S (pc := 59) gU (as := [sr a0, si x56]) (st := []) (N := mL_goes) (k := 0) (n := 0) (k1 := 0) (n1 := 0) dL_commands_59 lkL_80 caL_goes csL_goes rfl (fun Q1 hq => tL_goes a0 x56 h Q1 hq) ⟨by decide, by decide⟩ (Nat.le_of_ble_eq_true rfl) rfl hF (fun x57 h58 hF => ?_)
      show gV G mL_commands 4 Q 62 [some (sr a0), some (sr a1), some (si a2), some (si a3), some (si x1), none] [] (0) (0) h58
      refine v_goto (pc := 62) 328 dL_commands_62 rfl ?_
      exact v_ret (pc := 328) dL_commands_328 rfl (okr hF fun q => q)
    replace hF := (okB_if hF).1 hc
    refine v_aload_n (pc := 30) (i := 0) dL_commands_30 rfl rfl ?_
    refine v_aload_n (pc := 31) (i := 0) dL_commands_31 rfl rfl ?_
    refine v_aload_n (pc := 32) (i := 1) dL_commands_32 rfl rfl ?_
    refine v_iload (pc := 33) (i := 4) dL_commands_33 rfl ?_
    refine cp_S (pc := 35) gI (as := [sr a0, sr a1, si x1]) (st := [sr a0]) (N := mL_next) (k := 0) (n := 0) (k1 := 0) (n1 := 0) dL_commands_35 lkL_67 caL_next csL_next rfl (fun Q1 hq => tL_next a0 a1 x1 h Q1 hq) ⟨by decide, by decide⟩ (Nat.le_of_ble_eq_true rfl) rfl hF (fun x59 hF => ?_)
    show gV G mL_commands 4 Q 38 [some (sr a0), some (sr a1), some (si a2), some (si a3), some (si x1), none] [si x59, sr a0] (0) (0) h
    refine ch_S (pc := 38) gU (as := [sr a0, si x59]) (st := []) (N := mL_goes) (k := 0) (n := 0) (k1 := 0) (n1 := 0) dL_commands_38 lkL_80 caL_goes csL_goes rfl (fun Q1 hq => tL_goes a0 x59 h Q1 hq) ⟨by decide, by decide⟩ (Nat.le_of_ble_eq_true rfl) rfl hF (fun x60 h61 hF => ?_)
    show gV G mL_commands 4 Q 41 [some (sr a0), some (sr a1), some (si a2), some (si a3), some (si x1), none] [] (0) (0) h61
    refine v_goto (pc := 41) 328 dL_commands_41 rfl ?_
    exact v_ret (pc := 328) dL_commands_328 rfl (okr hF fun q => q)
  replace hF := (okB_if hF).1 hc
  refine v_aload_n (pc := 10) (i := 0) dL_commands_10 rfl rfl ?_
  refine v_aload_n (pc := 11) (i := 0) dL_commands_11 rfl rfl ?_
  refine v_aload_n (pc := 12) (i := 1) dL_commands_12 rfl rfl ?_
  refine v_iload (pc := 13) (i := 4) dL_commands_13 rfl ?_
  refine cp_S (pc := 15) gI (as := [sr a0, sr a1, si x1]) (st := [sr a0]) (N := mL_before) (k := 0) (n := 0) (k1 := 0) (n1 := 0) dL_commands_15 lkL_77 caL_before csL_before rfl (fun Q1 hq => tL_before a0 a1 x1 h Q1 hq) ⟨by decide, by decide⟩ (Nat.le_of_ble_eq_true rfl) rfl hF (fun x62 hF => ?_)
  show gV G mL_commands 4 Q 18 [some (sr a0), some (sr a1), some (si a2), some (si a3), some (si x1), none] [si x62, sr a0] (0) (0) h
  refine ch_S (pc := 18) gU (as := [sr a0, si x62]) (st := []) (N := mL_goes) (k := 0) (n := 0) (k1 := 0) (n1 := 0) dL_commands_18 lkL_80 caL_goes csL_goes rfl (fun Q1 hq => tL_goes a0 x62 h Q1 hq) ⟨by decide, by decide⟩ (Nat.le_of_ble_eq_true rfl) rfl hF (fun x63 h64 hF => ?_)
  show gV G mL_commands 4 Q 21 [some (sr a0), some (sr a1), some (si a2), some (si a3), some (si x1), none] [] (0) (0) h64
  refine v_goto (pc := 21) 328 dL_commands_21 rfl ?_
  exact v_ret (pc := 328) dL_commands_328 rfl (okr hF fun q => q)
