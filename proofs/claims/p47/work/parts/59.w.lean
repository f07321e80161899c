/-! ===== the law's methods that call the desk ===== -/
theorem dL_isAdded_0 : decode cL_isAdded 0 = .ok (.aload_n 2, 1) := by decide +kernel
theorem dL_isAdded_1 : decode cL_isAdded 1 = .ok (.bipush 6, 2) := by decide +kernel
theorem dL_isAdded_3 : decode cL_isAdded 3 = .ok (.iload 4, 2) := by decide +kernel
theorem dL_isAdded_5 : decode cL_isAdded 5 = .ok (.imul, 1) := by decide +kernel
theorem dL_isAdded_6 : decode cL_isAdded 6 = .ok (.iaload, 1) := by decide +kernel
theorem dL_isAdded_7 : decode cL_isAdded 7 = .ok (.istore 7, 2) := by decide +kernel
theorem dL_isAdded_9 : decode cL_isAdded 9 = .ok (.iload 7, 2) := by decide +kernel
theorem dL_isAdded_11 : decode cL_isAdded 11 = .ok (.ifCond .ne 10, 3) := by decide +kernel
theorem dL_isAdded_14 : decode cL_isAdded 14 = .ok (.iload 5, 2) := by decide +kernel
theorem dL_isAdded_16 : decode cL_isAdded 16 = .ok (.bipush 6, 2) := by decide +kernel
theorem dL_isAdded_18 : decode cL_isAdded 18 = .ok (.if_icmp .ne 34, 3) := by decide +kernel
theorem dL_isAdded_21 : decode cL_isAdded 21 = .ok (.iload 7, 2) := by decide +kernel
theorem dL_isAdded_23 : decode cL_isAdded 23 = .ok (.iconst 5, 1) := by decide +kernel
theorem dL_isAdded_24 : decode cL_isAdded 24 = .ok (.if_icmp .ne 10, 3) := by decide +kernel
theorem dL_isAdded_27 : decode cL_isAdded 27 = .ok (.iload 5, 2) := by decide +kernel
theorem dL_isAdded_29 : decode cL_isAdded 29 = .ok (.bipush 6, 2) := by decide +kernel
theorem dL_isAdded_31 : decode cL_isAdded 31 = .ok (.if_icmp .eq 21, 3) := by decide +kernel
theorem dL_isAdded_34 : decode cL_isAdded 34 = .ok (.iload 7, 2) := by decide +kernel
theorem dL_isAdded_36 : decode cL_isAdded 36 = .ok (.bipush 6, 2) := by decide +kernel
theorem dL_isAdded_38 : decode cL_isAdded 38 = .ok (.if_icmp .ne 18, 3) := by decide +kernel
theorem dL_isAdded_41 : decode cL_isAdded 41 = .ok (.iload 5, 2) := by decide +kernel
theorem dL_isAdded_43 : decode cL_isAdded 43 = .ok (.ifCond .le 13, 3) := by decide +kernel
theorem dL_isAdded_46 : decode cL_isAdded 46 = .ok (.iload 5, 2) := by decide +kernel
theorem dL_isAdded_48 : decode cL_isAdded 48 = .ok (.iconst 5, 1) := by decide +kernel
theorem dL_isAdded_49 : decode cL_isAdded 49 = .ok (.if_icmp .ge 7, 3) := by decide +kernel
theorem dL_isAdded_52 : decode cL_isAdded 52 = .ok (.iconst 1, 1) := by decide +kernel
theorem dL_isAdded_53 : decode cL_isAdded 53 = .ok (.goto 4, 3) := by decide +kernel
theorem dL_isAdded_56 : decode cL_isAdded 56 = .ok (.iconst 0, 1) := by decide +kernel
theorem dL_isAdded_57 : decode cL_isAdded 57 = .ok (.istore 8, 2) := by decide +kernel
theorem dL_isAdded_59 : decode cL_isAdded 59 = .ok (.aload_n 2, 1) := by decide +kernel
theorem dL_isAdded_60 : decode cL_isAdded 60 = .ok (.iload 4, 2) := by decide +kernel
theorem dL_isAdded_62 : decode cL_isAdded 62 = .ok (.invokestatic 7, 3) := by decide +kernel
theorem dL_isAdded_65 : decode cL_isAdded 65 = .ok (.istore 9, 2) := by decide +kernel
theorem dL_isAdded_67 : decode cL_isAdded 67 = .ok (.aload_n 1, 1) := by decide +kernel
theorem dL_isAdded_68 : decode cL_isAdded 68 = .ok (.aload_n 2, 1) := by decide +kernel
theorem dL_isAdded_69 : decode cL_isAdded 69 = .ok (.iload 4, 2) := by decide +kernel
theorem dL_isAdded_71 : decode cL_isAdded 71 = .ok (.invokestatic 71, 3) := by decide +kernel
theorem dL_isAdded_74 : decode cL_isAdded 74 = .ok (.istore 10, 2) := by decide +kernel
theorem dL_isAdded_76 : decode cL_isAdded 76 = .ok (.iload 9, 2) := by decide +kernel
theorem dL_isAdded_78 : decode cL_isAdded 78 = .ok (.ifCond .eq 19, 3) := by decide +kernel
theorem dL_isAdded_81 : decode cL_isAdded 81 = .ok (.iload 8, 2) := by decide +kernel
theorem dL_isAdded_83 : decode cL_isAdded 83 = .ok (.ifCond .eq 14, 3) := by decide +kernel
theorem dL_isAdded_86 : decode cL_isAdded 86 = .ok (.iload 10, 2) := by decide +kernel
theorem dL_isAdded_88 : decode cL_isAdded 88 = .ok (.bipush 10, 2) := by decide +kernel
theorem dL_isAdded_90 : decode cL_isAdded 90 = .ok (.if_icmp .ge 7, 3) := by decide +kernel
theorem dL_isAdded_93 : decode cL_isAdded 93 = .ok (.iconst 1, 1) := by decide +kernel
theorem dL_isAdded_94 : decode cL_isAdded 94 = .ok (.goto 4, 3) := by decide +kernel
theorem dL_isAdded_97 : decode cL_isAdded 97 = .ok (.iconst 0, 1) := by decide +kernel
theorem dL_isAdded_98 : decode cL_isAdded 98 = .ok (.istore 11, 2) := by decide +kernel
theorem dL_isAdded_100 : decode cL_isAdded 100 = .ok (.iload 6, 2) := by decide +kernel
theorem dL_isAdded_102 : decode cL_isAdded 102 = .ok (.bipush 13, 2) := by decide +kernel
theorem dL_isAdded_104 : decode cL_isAdded 104 = .ok (.idiv, 1) := by decide +kernel
theorem dL_isAdded_105 : decode cL_isAdded 105 = .ok (.iload 10, 2) := by decide +kernel
theorem dL_isAdded_107 : decode cL_isAdded 107 = .ok (.iconst 1, 1) := by decide +kernel
theorem dL_isAdded_108 : decode cL_isAdded 108 = .ok (.iadd, 1) := by decide +kernel
theorem dL_isAdded_109 : decode cL_isAdded 109 = .ok (.irem, 1) := by decide +kernel
theorem dL_isAdded_110 : decode cL_isAdded 110 = .ok (.istore 12, 2) := by decide +kernel
theorem dL_isAdded_112 : decode cL_isAdded 112 = .ok (.iload 11, 2) := by decide +kernel
theorem dL_isAdded_114 : decode cL_isAdded 114 = .ok (.ifCond .eq 12, 3) := by decide +kernel
theorem dL_isAdded_117 : decode cL_isAdded 117 = .ok (.aload_n 0, 1) := by decide +kernel
theorem dL_isAdded_118 : decode cL_isAdded 118 = .ok (.iload 6, 2) := by decide +kernel
theorem dL_isAdded_120 : decode cL_isAdded 120 = .ok (.invokestatic 222, 3) := by decide +kernel
theorem dL_isAdded_123 : decode cL_isAdded 123 = .ok (.goto 4, 3) := by decide +kernel
theorem dL_isAdded_126 : decode cL_isAdded 126 = .ok (.lconst 0, 1) := by decide +kernel
theorem dL_isAdded_127 : decode cL_isAdded 127 = .ok (.lstore 13, 2) := by decide +kernel
theorem dL_isAdded_129 : decode cL_isAdded 129 = .ok (.aload_n 0, 1) := by decide +kernel
theorem dL_isAdded_130 : decode cL_isAdded 130 = .ok (.iconst 0, 1) := by decide +kernel
theorem dL_isAdded_131 : decode cL_isAdded 131 = .ok (.iload 4, 2) := by decide +kernel
theorem dL_isAdded_133 : decode cL_isAdded 133 = .ok (.iload 9, 2) := by decide +kernel
theorem dL_isAdded_135 : decode cL_isAdded 135 = .ok (.ifCond .eq 8, 3) := by decide +kernel
theorem dL_isAdded_138 : decode cL_isAdded 138 = .ok (.iload 12, 2) := by decide +kernel
theorem dL_isAdded_140 : decode cL_isAdded 140 = .ok (.goto 4, 3) := by decide +kernel
theorem dL_isAdded_143 : decode cL_isAdded 143 = .ok (.iconst 0, 1) := by decide +kernel
theorem dL_isAdded_144 : decode cL_isAdded 144 = .ok (.iload 5, 2) := by decide +kernel
theorem dL_isAdded_146 : decode cL_isAdded 146 = .ok (.invokestatic 194, 3) := by decide +kernel
theorem dL_isAdded_149 : decode cL_isAdded 149 = .ok (.iload 9, 2) := by decide +kernel
theorem dL_isAdded_151 : decode cL_isAdded 151 = .ok (.ifCond .ne 8, 3) := by decide +kernel
theorem dL_isAdded_154 : decode cL_isAdded 154 = .ok (.bipush (-11), 2) := by decide +kernel
theorem dL_isAdded_156 : decode cL_isAdded 156 = .ok (.goto 16, 3) := by decide +kernel
theorem dL_isAdded_159 : decode cL_isAdded 159 = .ok (.iload 11, 2) := by decide +kernel
theorem dL_isAdded_161 : decode cL_isAdded 161 = .ok (.ifCond .eq 9, 3) := by decide +kernel
theorem dL_isAdded_164 : decode cL_isAdded 164 = .ok (.aload_n 1, 1) := by decide +kernel
theorem dL_isAdded_165 : decode cL_isAdded 165 = .ok (.iconst 0, 1) := by decide +kernel
theorem dL_isAdded_166 : decode cL_isAdded 166 = .ok (.iaload, 1) := by decide +kernel
theorem dL_isAdded_167 : decode cL_isAdded 167 = .ok (.goto 5, 3) := by decide +kernel
theorem dL_isAdded_170 : decode cL_isAdded 170 = .ok (.bipush (-13), 2) := by decide +kernel
theorem dL_isAdded_172 : decode cL_isAdded 172 = .ok (.if_icmp .ne 7, 3) := by decide +kernel
theorem dL_isAdded_175 : decode cL_isAdded 175 = .ok (.iconst 1, 1) := by decide +kernel
theorem dL_isAdded_176 : decode cL_isAdded 176 = .ok (.goto 4, 3) := by decide +kernel
theorem dL_isAdded_179 : decode cL_isAdded 179 = .ok (.iconst 0, 1) := by decide +kernel
theorem dL_isAdded_180 : decode cL_isAdded 180 = .ok (.istore 15, 2) := by decide +kernel
theorem dL_isAdded_182 : decode cL_isAdded 182 = .ok (.iload 11, 2) := by decide +kernel
theorem dL_isAdded_184 : decode cL_isAdded 184 = .ok (.ifCond .eq 124, 3) := by decide +kernel
theorem dL_isAdded_187 : decode cL_isAdded 187 = .ok (.iconst 1, 1) := by decide +kernel
theorem dL_isAdded_188 : decode cL_isAdded 188 = .ok (.istore 16, 2) := by decide +kernel
theorem dL_isAdded_190 : decode cL_isAdded 190 = .ok (.iload 16, 2) := by decide +kernel
theorem dL_isAdded_192 : decode cL_isAdded 192 = .ok (.aload_n 1, 1) := by decide +kernel
theorem dL_isAdded_193 : decode cL_isAdded 193 = .ok (.iconst 0, 1) := by decide +kernel
theorem dL_isAdded_194 : decode cL_isAdded 194 = .ok (.iaload, 1) := by decide +kernel
theorem dL_isAdded_195 : decode cL_isAdded 195 = .ok (.if_icmp .ge 54, 3) := by decide +kernel
theorem dL_isAdded_198 : decode cL_isAdded 198 = .ok (.aload_n 2, 1) := by decide +kernel
theorem dL_isAdded_199 : decode cL_isAdded 199 = .ok (.bipush 6, 2) := by decide +kernel
theorem dL_isAdded_201 : decode cL_isAdded 201 = .ok (.iload 16, 2) := by decide +kernel
theorem dL_isAdded_203 : decode cL_isAdded 203 = .ok (.imul, 1) := by decide +kernel
theorem dL_isAdded_204 : decode cL_isAdded 204 = .ok (.iconst 2, 1) := by decide +kernel
theorem dL_isAdded_205 : decode cL_isAdded 205 = .ok (.iadd, 1) := by decide +kernel
theorem dL_isAdded_206 : decode cL_isAdded 206 = .ok (.dup2, 1) := by decide +kernel
theorem dL_isAdded_207 : decode cL_isAdded 207 = .ok (.iaload, 1) := by decide +kernel
theorem dL_isAdded_208 : decode cL_isAdded 208 = .ok (.aload_n 2, 1) := by decide +kernel
theorem dL_isAdded_209 : decode cL_isAdded 209 = .ok (.bipush 6, 2) := by decide +kernel
theorem dL_isAdded_211 : decode cL_isAdded 211 = .ok (.iload 16, 2) := by decide +kernel
theorem dL_isAdded_213 : decode cL_isAdded 213 = .ok (.imul, 1) := by decide +kernel
theorem dL_isAdded_214 : decode cL_isAdded 214 = .ok (.iconst 1, 1) := by decide +kernel
theorem dL_isAdded_215 : decode cL_isAdded 215 = .ok (.iadd, 1) := by decide +kernel
theorem dL_isAdded_216 : decode cL_isAdded 216 = .ok (.iaload, 1) := by decide +kernel
theorem dL_isAdded_217 : decode cL_isAdded 217 = .ok (.iload 4, 2) := by decide +kernel
theorem dL_isAdded_219 : decode cL_isAdded 219 = .ok (.if_icmp .ne 21, 3) := by decide +kernel
theorem dL_isAdded_222 : decode cL_isAdded 222 = .ok (.aload_n 2, 1) := by decide +kernel
theorem dL_isAdded_223 : decode cL_isAdded 223 = .ok (.bipush 6, 2) := by decide +kernel
theorem dL_isAdded_225 : decode cL_isAdded 225 = .ok (.iload 16, 2) := by decide +kernel
theorem dL_isAdded_227 : decode cL_isAdded 227 = .ok (.imul, 1) := by decide +kernel
theorem dL_isAdded_228 : decode cL_isAdded 228 = .ok (.iconst 2, 1) := by decide +kernel
theorem dL_isAdded_229 : decode cL_isAdded 229 = .ok (.iadd, 1) := by decide +kernel
theorem dL_isAdded_230 : decode cL_isAdded 230 = .ok (.iaload, 1) := by decide +kernel
theorem dL_isAdded_231 : decode cL_isAdded 231 = .ok (.iload 12, 2) := by decide +kernel
theorem dL_isAdded_233 : decode cL_isAdded 233 = .ok (.if_icmp .lt 7, 3) := by decide +kernel
theorem dL_isAdded_236 : decode cL_isAdded 236 = .ok (.iconst 1, 1) := by decide +kernel
theorem dL_isAdded_237 : decode cL_isAdded 237 = .ok (.goto 4, 3) := by decide +kernel
theorem dL_isAdded_240 : decode cL_isAdded 240 = .ok (.iconst 0, 1) := by decide +kernel
theorem dL_isAdded_241 : decode cL_isAdded 241 = .ok (.iadd, 1) := by decide +kernel
theorem dL_isAdded_242 : decode cL_isAdded 242 = .ok (.iastore, 1) := by decide +kernel
theorem dL_isAdded_243 : decode cL_isAdded 243 = .ok (.iinc 16 1, 3) := by decide +kernel
theorem dL_isAdded_246 : decode cL_isAdded 246 = .ok (.goto (-56), 3) := by decide +kernel
theorem dL_isAdded_249 : decode cL_isAdded 249 = .ok (.aload_n 2, 1) := by decide +kernel
theorem dL_isAdded_250 : decode cL_isAdded 250 = .ok (.bipush 6, 2) := by decide +kernel
theorem dL_isAdded_252 : decode cL_isAdded 252 = .ok (.aload_n 1, 1) := by decide +kernel
theorem dL_isAdded_253 : decode cL_isAdded 253 = .ok (.iconst 0, 1) := by decide +kernel
theorem dL_isAdded_254 : decode cL_isAdded 254 = .ok (.iaload, 1) := by decide +kernel
theorem dL_isAdded_255 : decode cL_isAdded 255 = .ok (.imul, 1) := by decide +kernel
theorem dL_isAdded_256 : decode cL_isAdded 256 = .ok (.iload 5, 2) := by decide +kernel
theorem dL_isAdded_258 : decode cL_isAdded 258 = .ok (.iastore, 1) := by decide +kernel
theorem dL_isAdded_259 : decode cL_isAdded 259 = .ok (.aload_n 2, 1) := by decide +kernel
theorem dL_isAdded_260 : decode cL_isAdded 260 = .ok (.bipush 6, 2) := by decide +kernel
theorem dL_isAdded_262 : decode cL_isAdded 262 = .ok (.aload_n 1, 1) := by decide +kernel
theorem dL_isAdded_263 : decode cL_isAdded 263 = .ok (.iconst 0, 1) := by decide +kernel
theorem dL_isAdded_264 : decode cL_isAdded 264 = .ok (.iaload, 1) := by decide +kernel
theorem dL_isAdded_265 : decode cL_isAdded 265 = .ok (.imul, 1) := by decide +kernel
theorem dL_isAdded_266 : decode cL_isAdded 266 = .ok (.iconst 1, 1) := by decide +kernel
theorem dL_isAdded_267 : decode cL_isAdded 267 = .ok (.iadd, 1) := by decide +kernel
theorem dL_isAdded_268 : decode cL_isAdded 268 = .ok (.iload 4, 2) := by decide +kernel
theorem dL_isAdded_270 : decode cL_isAdded 270 = .ok (.iastore, 1) := by decide +kernel
theorem dL_isAdded_271 : decode cL_isAdded 271 = .ok (.aload_n 2, 1) := by decide +kernel
theorem dL_isAdded_272 : decode cL_isAdded 272 = .ok (.bipush 6, 2) := by decide +kernel
theorem dL_isAdded_274 : decode cL_isAdded 274 = .ok (.aload_n 1, 1) := by decide +kernel
theorem dL_isAdded_275 : decode cL_isAdded 275 = .ok (.iconst 0, 1) := by decide +kernel
theorem dL_isAdded_276 : decode cL_isAdded 276 = .ok (.iaload, 1) := by decide +kernel
theorem dL_isAdded_277 : decode cL_isAdded 277 = .ok (.imul, 1) := by decide +kernel
theorem dL_isAdded_278 : decode cL_isAdded 278 = .ok (.iconst 2, 1) := by decide +kernel
theorem dL_isAdded_279 : decode cL_isAdded 279 = .ok (.iadd, 1) := by decide +kernel
theorem dL_isAdded_280 : decode cL_isAdded 280 = .ok (.iload 12, 2) := by decide +kernel
theorem dL_isAdded_282 : decode cL_isAdded 282 = .ok (.iastore, 1) := by decide +kernel
theorem dL_isAdded_283 : decode cL_isAdded 283 = .ok (.aload_n 2, 1) := by decide +kernel
theorem dL_isAdded_284 : decode cL_isAdded 284 = .ok (.bipush 6, 2) := by decide +kernel
theorem dL_isAdded_286 : decode cL_isAdded 286 = .ok (.aload_n 1, 1) := by decide +kernel
theorem dL_isAdded_287 : decode cL_isAdded 287 = .ok (.iconst 0, 1) := by decide +kernel
theorem dL_isAdded_288 : decode cL_isAdded 288 = .ok (.iaload, 1) := by decide +kernel
theorem dL_isAdded_289 : decode cL_isAdded 289 = .ok (.imul, 1) := by decide +kernel
theorem dL_isAdded_290 : decode cL_isAdded 290 = .ok (.iconst 3, 1) := by decide +kernel
theorem dL_isAdded_291 : decode cL_isAdded 291 = .ok (.iadd, 1) := by decide +kernel
theorem dL_isAdded_292 : decode cL_isAdded 292 = .ok (.iconst 1, 1) := by decide +kernel
theorem dL_isAdded_293 : decode cL_isAdded 293 = .ok (.iastore, 1) := by decide +kernel
theorem dL_isAdded_294 : decode cL_isAdded 294 = .ok (.aload_n 3, 1) := by decide +kernel
theorem dL_isAdded_295 : decode cL_isAdded 295 = .ok (.aload_n 1, 1) := by decide +kernel
theorem dL_isAdded_296 : decode cL_isAdded 296 = .ok (.iconst 0, 1) := by decide +kernel
theorem dL_isAdded_297 : decode cL_isAdded 297 = .ok (.iaload, 1) := by decide +kernel
theorem dL_isAdded_298 : decode cL_isAdded 298 = .ok (.lload 13, 2) := by decide +kernel
theorem dL_isAdded_300 : decode cL_isAdded 300 = .ok (.lastore, 1) := by decide +kernel
theorem dL_isAdded_301 : decode cL_isAdded 301 = .ok (.aload_n 1, 1) := by decide +kernel
theorem dL_isAdded_302 : decode cL_isAdded 302 = .ok (.iconst 0, 1) := by decide +kernel
theorem dL_isAdded_303 : decode cL_isAdded 303 = .ok (.dup2, 1) := by decide +kernel
theorem dL_isAdded_304 : decode cL_isAdded 304 = .ok (.iaload, 1) := by decide +kernel
theorem dL_isAdded_305 : decode cL_isAdded 305 = .ok (.iconst 1, 1) := by decide +kernel
theorem dL_isAdded_306 : decode cL_isAdded 306 = .ok (.iadd, 1) := by decide +kernel
theorem dL_isAdded_307 : decode cL_isAdded 307 = .ok (.iastore, 1) := by decide +kernel
theorem dL_isAdded_308 : decode cL_isAdded 308 = .ok (.iload 15, 2) := by decide +kernel
theorem dL_isAdded_310 : decode cL_isAdded 310 = .ok (.ireturn, 1) := by decide +kernel
abbrev mL_isAdded : gM := (yL_isAdded, cL_isAdded, 17, (Option.some FieldType.boolean), [])
set_option maxRecDepth 100000 in
theorem caL_isAdded : cal mL_isAdded 7 := ⟨xw 1267 rfl rfl, xw 28 (by decide +kernel) rfl, by decide, by decide +kernel⟩
theorem csL_isAdded : Cond.static yL_isAdded ∈ XW := xw 1266 (by decide +kernel) rfl
theorem lkL_222 : Cond.methodLink RL 222 yL_drafts ∈ XW := xw 1242 (by decide +kernel) rfl
/-! isAdded -/
theorem lL_isAdded_190 {G : gG} {Q : hQ} {KE : hp → Prop} {k n : Nat} (c1 : (Option Nat)) (c2 : (Option Nat)) (c3 : (Option Nat)) (c4 : Int32) (c5 : Int32) (c12 : Int32) (c13 : Int64) (c15 : Int32) (hJ : ∀ q : hp, KE q → gV G mL_isAdded 56 Q 249 [none, some (sr c1), some (sr c2), some (sr c3), some (si c4), some (si c5), none, none, none, none, none, none, some (si c12), some (sl c13), none, some (si c15), none] [] (k) (n) q) : ∀ (fu : Nat) (a : (Int32 × hp)), itrW (fL_isAdded_B190 c1 c2 c3 c4 c5 c12 c13 c15) fu a KE → gV G mL_isAdded 56 Q 190 [none, some (sr c1), some (sr c2), some (sr c3), some (si c4), some (si c5), none, none, none, none, none, none, some (si c12), some (sl c13), none, some (si c15), some (si a.1)] [] (k) (n) a.2 :=
  lpW (X := fun (m : Nat) (a : (Int32 × hp)) => gV G mL_isAdded 56 Q 190 [none, some (sr c1), some (sr c2), some (sr c3), some (si c4), some (si c5), none, none, none, none, none, none, some (si c12), some (sl c13), none, some (si c15), some (si a.1)] [] (k) (n) a.2) (fun m a P1 hL hF => by
    delta fL_isAdded_B190 at hF
    refine v_iload (pc := 190) (i := 16) dL_isAdded_190 rfl ?_
    refine v_aload_n (pc := 192) (i := 1) dL_isAdded_192 rfl rfl ?_
    refine v_iconst (pc := 193) (v := (0 : Int32)) dL_isAdded_193 rfl ?_
    refine s_iald (f := some) (pc := 194) dL_isAdded_194 (okB_bs hF) (fun x1 hF => ?_)
    replace hF := okB_some hF
    refine v_icmp_ge (pc := 195) 249 dL_isAdded_195 rfl (fun hc => ?_) (fun hc => ?_)
    · replace hF := (ifP hF).1 hc
      exact v_lle [none, some (sr c1), some (sr c2), some (sr c3), some (si c4), some (si c5), none, none, none, none, none, none, some (si c12), some (sl c13), none, some (si c15), none] ⟨rfl, rfl, rfl, rfl, rfl, rfl, rfl, rfl, trivial⟩ (hJ a.2 hF)
    replace hF := (ifP hF).2 hc
    refine v_aload_n (pc := 198) (i := 2) dL_isAdded_198 rfl rfl ?_
    refine v_bipush (pc := 199) (v := (6 : Int32)) dL_isAdded_199 rfl ?_
    refine v_iload (pc := 201) (i := 16) dL_isAdded_201 rfl ?_
    refine v_imul (pc := 203) dL_isAdded_203 ?_
    refine v_iconst (pc := 204) (v := (2 : Int32)) dL_isAdded_204 rfl ?_
    refine v_iadd (pc := 205) dL_isAdded_205 ?_
    refine v_dup2 (pc := 206) dL_isAdded_206 rfl rfl ?_
    refine s_iald (f := some) (pc := 207) dL_isAdded_207 (okB_bs hF) (fun x2 hF => ?_)
    replace hF := okB_some hF
    refine v_aload_n (pc := 208) (i := 2) dL_isAdded_208 rfl rfl ?_
    refine v_bipush (pc := 209) (v := (6 : Int32)) dL_isAdded_209 rfl ?_
    refine v_iload (pc := 211) (i := 16) dL_isAdded_211 rfl ?_
    refine v_imul (pc := 213) dL_isAdded_213 ?_
    refine v_iconst (pc := 214) (v := (1 : Int32)) dL_isAdded_214 rfl ?_
    refine v_iadd (pc := 215) dL_isAdded_215 ?_
    refine s_iald (f := some) (pc := 216) dL_isAdded_216 (okB_bs hF) (fun x3 hF => ?_)
    replace hF := okB_some hF
    refine v_iload (pc := 217) (i := 4) dL_isAdded_217 rfl ?_
    refine v_icmp_ne (pc := 219) 240 dL_isAdded_219 rfl (fun hc => ?_) (fun hc => ?_)
    · replace hF := (ifP hF).2 hc
      refine v_iconst (pc := 240) (v := (0 : Int32)) dL_isAdded_240 rfl ?_
      refine v_iadd (pc := 241) dL_isAdded_241 ?_
      refine s_iast (f := some) (pc := 242) dL_isAdded_242 (okB_bs hF) (fun h4 hF => ?_)
      replace hF := okB_some hF
      refine v_iinc (pc := 243) (i := 16) (a.1 + (1 : Int32)) [none, some (sr c1), some (sr c2), some (sr c3), some (si c4), some (si c5), none, none, none, none, none, none, some (si c12), some (sl c13), none, some (si c15), some (si (a.1 + (1 : Int32)))] dL_isAdded_243 rfl rfl rfl rfl ?_
      refine v_goto (pc := 246) 190 dL_isAdded_246 rfl ?_
      exact v_lle [none, some (sr c1), some (sr c2), some (sr c3), some (si c4), some (si c5), none, none, none, none, none, none, some (si c12), some (sl c13), none, some (si c15), some (si (a.1 + (1 : Int32)))] ⟨rfl, rfl, rfl, rfl, rfl, rfl, rfl, rfl, rfl, trivial⟩ (hL (a.1 + (1 : Int32), h4) hF)
    replace hF := (ifP hF).1 hc
    refine v_aload_n (pc := 222) (i := 2) dL_isAdded_222 rfl rfl ?_
    refine v_bipush (pc := 223) (v := (6 : Int32)) dL_isAdded_223 rfl ?_
    refine v_iload (pc := 225) (i := 16) dL_isAdded_225 rfl ?_
    refine v_imul (pc := 227) dL_isAdded_227 ?_
    refine v_iconst (pc := 228) (v := (2 : Int32)) dL_isAdded_228 rfl ?_
    refine v_iadd (pc := 229) dL_isAdded_229 ?_
    refine s_iald (f := some) (pc := 230) dL_isAdded_230 (okB_bs hF) (fun x5 hF => ?_)
    replace hF := okB_some hF
    refine v_iload (pc := 231) (i := 12) dL_isAdded_231 rfl ?_
    refine v_icmp_lt (pc := 233) 240 dL_isAdded_233 rfl (fun hc => ?_) (fun hc => ?_)
    · replace hF := (ifP hF).1 hc
      refine v_iconst (pc := 240) (v := (0 : Int32)) dL_isAdded_240 rfl ?_
      refine v_iadd (pc := 241) dL_isAdded_241 ?_
      refine s_iast (f := some) (pc := 242) dL_isAdded_242 (okB_bs hF) (fun h6 hF => ?_)
      replace hF := okB_some hF
      refine v_iinc (pc := 243) (i := 16) (a.1 + (1 : Int32)) [none, some (sr c1), some (sr c2), some (sr c3), some (si c4), some (si c5), none, none, none, none, none, none, some (si c12), some (sl c13), none, some (si c15), some (si (a.1 + (1 : Int32)))] dL_isAdded_243 rfl rfl rfl rfl ?_
      refine v_goto (pc := 246) 190 dL_isAdded_246 rfl ?_
      exact v_lle [none, some (sr c1), some (sr c2), some (sr c3), some (si c4), some (si c5), none, none, none, none, none, none, some (si c12), some (sl c13), none, some (si c15), some (si (a.1 + (1 : Int32)))] ⟨rfl, rfl, rfl, rfl, rfl, rfl, rfl, rfl, rfl, trivial⟩ (hL (a.1 + (1 : Int32), h6) hF)
    replace hF := (ifP hF).2 hc
    refine v_iconst (pc := 236) (v := (1 : Int32)) dL_isAdded_236 rfl ?_
    refine v_goto (pc := 237) 241 dL_isAdded_237 rfl ?_
    refine v_iadd (pc := 241) dL_isAdded_241 ?_
    refine s_iast (f := some) (pc := 242) dL_isAdded_242 (okB_bs hF) (fun h7 hF => ?_)
    replace hF := okB_some hF
    refine v_iinc (pc := 243) (i := 16) (a.1 + (1 : Int32)) [none, some (sr c1), some (sr c2), some (sr c3), some (si c4), some (si c5), none, none, none, none, none, none, some (si c12), some (sl c13), none, some (si c15), some (si (a.1 + (1 : Int32)))] dL_isAdded_243 rfl rfl rfl rfl ?_
    refine v_goto (pc := 246) 190 dL_isAdded_246 rfl ?_
    exact v_lle [none, some (sr c1), some (sr c2), some (sr c3), some (si c4), some (si c5), none, none, none, none, none, none, some (si c12), some (sl c13), none, some (si c15), some (si (a.1 + (1 : Int32)))] ⟨rfl, rfl, rfl, rfl, rfl, rfl, rfl, rfl, rfl, trivial⟩ (hL (a.1 + (1 : Int32), h7) hF))
theorem tL_isAdded {G : gG} (a0 : (Option Nat)) (a1 : (Option Nat)) (a2 : (Option Nat)) (a3 : (Option Nat)) (a4 : Int32) (a5 : Int32) (a6 : Int32) (h : hp) (K : Int32 → hp → Prop) (Q : hQ) (hK : ∀ x h', K x h' → Q (.inl (some (si x))) h') (hF : fL_isAdded a0 a1 a2 a3 a4 a5 a6 h K) : gS G mL_isAdded 56 14 367 [sr a0, sr a1, sr a2, sr a3, si a4, si a5, si a6] h Q := by
  delta fL_isAdded at hF
  refine gS_at [some (sr a0), some (sr a1), some (sr a2), some (sr a3), some (si a4), some (si a5), some (si a6), none, none, none, none, none, none, none, none, none, none] pl_L rfl (Nat.le_of_ble_eq_true rfl) rfl ?_
  refine v_aload_n (pc := 0) (i := 2) dL_isAdded_0 rfl rfl ?_
  refine v_bipush (pc := 1) (v := (6 : Int32)) dL_isAdded_1 rfl ?_
  refine v_iload (pc := 3) (i := 4) dL_isAdded_3 rfl ?_
  refine v_imul (pc := 5) dL_isAdded_5 ?_
  refine s_iald (f := some) (pc := 6) dL_isAdded_6 (okB_bs hF) (fun x1 hF => ?_)
  replace hF := okB_some hF
  refine v_istore (pc := 7) (i := 7) [some (sr a0), some (sr a1), some (sr a2), some (sr a3), some (si a4), some (si a5), some (si a6), some (si x1), none, none, none, none, none, none, none, none, none] dL_isAdded_7 (by decide) rfl rfl ?_
  refine v_iload (pc := 9) (i := 7) dL_isAdded_9 rfl ?_
  refine mgW (X := fun q2 => gV G mL_isAdded 56 Q 57 [some (sr a0), some (sr a1), some (sr a2), some (sr a3), some (si a4), some (si a5), some (si a6), none, none, none, none, none, none, none, none, none, none] [si q2] (14) (367) h) hF (fun K2 hj2 hF => ?_) (fun q2 hF => ?_)
  · refine v_if_ne (pc := 11) 21 dL_isAdded_11 rfl (fun hc => ?_) (fun hc => ?_)
    · replace hF := (ifP hF).2 hc
      refine v_iload (pc := 21) (i := 7) dL_isAdded_21 rfl ?_
      refine v_iconst (pc := 23) (v := (5 : Int32)) dL_isAdded_23 rfl ?_
      refine mgW (X := fun q3 => gV G mL_isAdded 56 Q 34 [some (sr a0), some (sr a1), some (sr a2), some (sr a3), some (si a4), some (si a5), some (si a6), some (si x1), none, none, none, none, none, none, none, none, none] [] (14) (367) h) hF (fun K3 hj3 hF => ?_) (fun q3 hF => ?_)
      · refine v_icmp_ne (pc := 24) 34 dL_isAdded_24 rfl (fun hc => ?_) (fun hc => ?_)
        · replace hF := (ifP hF).2 hc
          exact v_lle [some (sr a0), some (sr a1), some (sr a2), some (sr a3), some (si a4), some (si a5), some (si a6), some (si x1), none, none, none, none, none, none, none, none, none] ⟨rfl, rfl, rfl, rfl, rfl, rfl, rfl, rfl, trivial⟩ (hj3 () hF)
        replace hF := (ifP hF).1 hc
        refine v_iload (pc := 27) (i := 5) dL_isAdded_27 rfl ?_
        refine v_bipush (pc := 29) (v := (6 : Int32)) dL_isAdded_29 rfl ?_
        refine v_icmp_eq (pc := 31) 52 dL_isAdded_31 rfl (fun hc => ?_) (fun hc => ?_)
        · replace hF := (ifP hF).1 hc
          refine v_iconst (pc := 52) (v := (1 : Int32)) dL_isAdded_52 rfl ?_
          refine v_goto (pc := 53) 57 dL_isAdded_53 rfl ?_
          exact v_lle [some (sr a0), some (sr a1), some (sr a2), some (sr a3), some (si a4), some (si a5), some (si a6), none, none, none, none, none, none, none, none, none, none] ⟨rfl, rfl, rfl, rfl, rfl, rfl, rfl, trivial⟩ (hj2 (1 : Int32) hF)
        replace hF := (ifP hF).2 hc
        exact v_lle [some (sr a0), some (sr a1), some (sr a2), some (sr a3), some (si a4), some (si a5), some (si a6), some (si x1), none, none, none, none, none, none, none, none, none] ⟨rfl, rfl, rfl, rfl, rfl, rfl, rfl, rfl, trivial⟩ (hj3 () hF)
      refine v_iload (pc := 34) (i := 7) dL_isAdded_34 rfl ?_
      refine v_bipush (pc := 36) (v := (6 : Int32)) dL_isAdded_36 rfl ?_
      refine v_icmp_ne (pc := 38) 56 dL_isAdded_38 rfl (fun hc => ?_) (fun hc => ?_)
      · replace hF := (ifP hF).2 hc
        refine v_iconst (pc := 56) (v := (0 : Int32)) dL_isAdded_56 rfl ?_
        exact v_lle [some (sr a0), some (sr a1), some (sr a2), some (sr a3), some (si a4), some (si a5), some (si a6), none, none, none, none, none, none, none, none, none, none] ⟨rfl, rfl, rfl, rfl, rfl, rfl, rfl, trivial⟩ (hj2 (0 : Int32) hF)
      replace hF := (ifP hF).1 hc
      refine v_iload (pc := 41) (i := 5) dL_isAdded_41 rfl ?_
      refine v_if_le (pc := 43) 56 dL_isAdded_43 rfl (fun hc => ?_) (fun hc => ?_)
      · replace hF := (ifP hF).1 hc
        refine v_iconst (pc := 56) (v := (0 : Int32)) dL_isAdded_56 rfl ?_
        exact v_lle [some (sr a0), some (sr a1), some (sr a2), some (sr a3), some (si a4), some (si a5), some (si a6), none, none, none, none, none, none, none, none, none, none] ⟨rfl, rfl, rfl, rfl, rfl, rfl, rfl, trivial⟩ (hj2 (0 : Int32) hF)
      replace hF := (ifP hF).2 hc
      refine v_iload (pc := 46) (i := 5) dL_isAdded_46 rfl ?_
      refine v_iconst (pc := 48) (v := (5 : Int32)) dL_isAdded_48 rfl ?_
      refine v_icmp_ge (pc := 49) 56 dL_isAdded_49 rfl (fun hc => ?_) (fun hc => ?_)
      · replace hF := (ifP hF).1 hc
        refine v_iconst (pc := 56) (v := (0 : Int32)) dL_isAdded_56 rfl ?_
        exact v_lle [some (sr a0), some (sr a1), some (sr a2), some (sr a3), some (si a4), some (si a5), some (si a6), none, none, none, none, none, none, none, none, none, none] ⟨rfl, rfl, rfl, rfl, rfl, rfl, rfl, trivial⟩ (hj2 (0 : Int32) hF)
      replace hF := (ifP hF).2 hc
      refine v_iconst (pc := 52) (v := (1 : Int32)) dL_isAdded_52 rfl ?_
      refine v_goto (pc := 53) 57 dL_isAdded_53 rfl ?_
      exact v_lle [some (sr a0), some (sr a1), some (sr a2), some (sr a3), some (si a4), some (si a5), some (si a6), none, none, none, none, none, none, none, none, none, none] ⟨rfl, rfl, rfl, rfl, rfl, rfl, rfl, trivial⟩ (hj2 (1 : Int32) hF)
    replace hF := (ifP hF).1 hc
    refine v_iload (pc := 14) (i := 5) dL_isAdded_14 rfl ?_
    refine v_bipush (pc := 16) (v := (6 : Int32)) dL_isAdded_16 rfl ?_
    refine v_icmp_ne (pc := 18) 52 dL_isAdded_18 rfl (fun hc => ?_) (fun hc => ?_)
    · replace hF := (ifP hF).2 hc
      refine v_iconst (pc := 52) (v := (1 : Int32)) dL_isAdded_52 rfl ?_
      refine v_goto (pc := 53) 57 dL_isAdded_53 rfl ?_
      exact v_lle [some (sr a0), some (sr a1), some (sr a2), some (sr a3), some (si a4), some (si a5), some (si a6), none, none, none, none, none, none, none, none, none, none] ⟨rfl, rfl, rfl, rfl, rfl, rfl, rfl, trivial⟩ (hj2 (1 : Int32) hF)
    replace hF := (ifP hF).1 hc
    refine v_iload (pc := 21) (i := 7) dL_isAdded_21 rfl ?_
    refine v_iconst (pc := 23) (v := (5 : Int32)) dL_isAdded_23 rfl ?_
    refine mgW (X := fun q4 => gV G mL_isAdded 56 Q 34 [some (sr a0), some (sr a1), some (sr a2), some (sr a3), some (si a4), some (si a5), some (si a6), some (si x1), none, none, none, none, none, none, none, none, none] [] (14) (367) h) hF (fun K4 hj4 hF => ?_) (fun q4 hF => ?_)
    · refine v_icmp_ne (pc := 24) 34 dL_isAdded_24 rfl (fun hc => ?_) (fun hc => ?_)
      · replace hF := (ifP hF).2 hc
        exact v_lle [some (sr a0), some (sr a1), some (sr a2), some (sr a3), some (si a4), some (si a5), some (si a6), some (si x1), none, none, none, none, none, none, none, none, none] ⟨rfl, rfl, rfl, rfl, rfl, rfl, rfl, rfl, trivial⟩ (hj4 () hF)
      replace hF := (ifP hF).1 hc
      refine v_iload (pc := 27) (i := 5) dL_isAdded_27 rfl ?_
      refine v_bipush (pc := 29) (v := (6 : Int32)) dL_isAdded_29 rfl ?_
      refine v_icmp_eq (pc := 31) 52 dL_isAdded_31 rfl (fun hc => ?_) (fun hc => ?_)
      · replace hF := (ifP hF).1 hc
        refine v_iconst (pc := 52) (v := (1 : Int32)) dL_isAdded_52 rfl ?_
        refine v_goto (pc := 53) 57 dL_isAdded_53 rfl ?_
        exact v_lle [some (sr a0), some (sr a1), some (sr a2), some (sr a3), some (si a4), some (si a5), some (si a6), none, none, none, none, none, none, none, none, none, none] ⟨rfl, rfl, rfl, rfl, rfl, rfl, rfl, trivial⟩ (hj2 (1 : Int32) hF)
      replace hF := (ifP hF).2 hc
      exact v_lle [some (sr a0), some (sr a1), some (sr a2), some (sr a3), some (si a4), some (si a5), some (si a6), some (si x1), none, none, none, none, none, none, none, none, none] ⟨rfl, rfl, rfl, rfl, rfl, rfl, rfl, rfl, trivial⟩ (hj4 () hF)
    refine v_iload (pc := 34) (i := 7) dL_isAdded_34 rfl ?_
    refine v_bipush (pc := 36) (v := (6 : Int32)) dL_isAdded_36 rfl ?_
    refine v_icmp_ne (pc := 38) 56 dL_isAdded_38 rfl (fun hc => ?_) (fun hc => ?_)
    · replace hF := (ifP hF).2 hc
      refine v_iconst (pc := 56) (v := (0 : Int32)) dL_isAdded_56 rfl ?_
      exact v_lle [some (sr a0), some (sr a1), some (sr a2), some (sr a3), some (si a4), some (si a5), some (si a6), none, none, none, none, none, none, none, none, none, none] ⟨rfl, rfl, rfl, rfl, rfl, rfl, rfl, trivial⟩ (hj2 (0 : Int32) hF)
    replace hF := (ifP hF).1 hc
    refine v_iload (pc := 41) (i := 5) dL_isAdded_41 rfl ?_
    refine v_if_le (pc := 43) 56 dL_isAdded_43 rfl (fun hc => ?_) (fun hc => ?_)
    · replace hF := (ifP hF).1 hc
      refine v_iconst (pc := 56) (v := (0 : Int32)) dL_isAdded_56 rfl ?_
      exact v_lle [some (sr a0), some (sr a1), some (sr a2), some (sr a3), some (si a4), some (si a5), some (si a6), none, none, none, none, none, none, none, none, none, none] ⟨rfl, rfl, rfl, rfl, rfl, rfl, rfl, trivial⟩ (hj2 (0 : Int32) hF)
    replace hF := (ifP hF).2 hc
    refine v_iload (pc := 46) (i := 5) dL_isAdded_46 rfl ?_
    refine v_iconst (pc := 48) (v := (5 : Int32)) dL_isAdded_48 rfl ?_
    refine v_icmp_ge (pc := 49) 56 dL_isAdded_49 rfl (fun hc => ?_) (fun hc => ?_)
    · replace hF := (ifP hF).1 hc
      refine v_iconst (pc := 56) (v := (0 : Int32)) dL_isAdded_56 rfl ?_
      exact v_lle [some (sr a0), some (sr a1), some (sr a2), some (sr a3), some (si a4), some (si a5), some (si a6), none, none, none, none, none, none, none, none, none, none] ⟨rfl, rfl, rfl, rfl, rfl, rfl, rfl, trivial⟩ (hj2 (0 : Int32) hF)
    replace hF := (ifP hF).2 hc
    refine v_iconst (pc := 52) (v := (1 : Int32)) dL_isAdded_52 rfl ?_
    refine v_goto (pc := 53) 57 dL_isAdded_53 rfl ?_
    exact v_lle [some (sr a0), some (sr a1), some (sr a2), some (sr a3), some (si a4), some (si a5), some (si a6), none, none, none, none, none, none, none, none, none, none] ⟨rfl, rfl, rfl, rfl, rfl, rfl, rfl, trivial⟩ (hj2 (1 : Int32) hF)
  refine v_istore (pc := 57) (i := 8) [some (sr a0), some (sr a1), some (sr a2), some (sr a3), some (si a4), some (si a5), some (si a6), none, some (si q2), none, none, none, none, none, none, none, none] dL_isAdded_57 (by decide) rfl rfl ?_
  refine v_aload_n (pc := 59) (i := 2) dL_isAdded_59 rfl rfl ?_
  refine v_iload (pc := 60) (i := 4) dL_isAdded_60 rfl ?_
  refine yp_S (pc := 62) gI (as := [sr a2, si a4]) (st := []) (N := mL_isThere) (k := 14) (n := 367) (k1 := 0) (n1 := 0) dL_isAdded_62 lkL_7 caL_isThere csL_isThere rfl (fun Q1 hq => tL_isThere a2 a4 h Q1 hq) ⟨by decide, by decide⟩ (Nat.le_of_ble_eq_true rfl) hF (fun x5 hF => ?_)
  show gV G mL_isAdded 56 Q 65 [some (sr a0), some (sr a1), some (sr a2), some (sr a3), some (si a4), some (si a5), some (si a6), none, some (si q2), none, none, none, none, none, none, none, none] [si x5] (14) (367) h
  refine v_istore (pc := 65) (i := 9) [some (sr a0), some (sr a1), some (sr a2), some (sr a3), some (si a4), some (si a5), some (si a6), none, some (si q2), some (si x5), none, none, none, none, none, none, none] dL_isAdded_65 (by decide) rfl rfl ?_
  refine v_aload_n (pc := 67) (i := 1) dL_isAdded_67 rfl rfl ?_
  refine v_aload_n (pc := 68) (i := 2) dL_isAdded_68 rfl rfl ?_
  refine v_iload (pc := 69) (i := 4) dL_isAdded_69 rfl ?_
  refine yp_S (pc := 71) gI (as := [sr a1, sr a2, si a4]) (st := []) (N := mL_kids) (k := 14) (n := 367) (k1 := 0) (n1 := 0) dL_isAdded_71 lkL_71 caL_kids csL_kids rfl (fun Q1 hq => tL_kids a1 a2 a4 h Q1 hq) ⟨by decide, by decide⟩ (Nat.le_of_ble_eq_true rfl) hF (fun x6 hF => ?_)
  show gV G mL_isAdded 56 Q 74 [some (sr a0), some (sr a1), some (sr a2), some (sr a3), some (si a4), some (si a5), some (si a6), none, some (si q2), some (si x5), none, none, none, none, none, none, none] [si x6] (14) (367) h
  refine v_istore (pc := 74) (i := 10) [some (sr a0), some (sr a1), some (sr a2), some (sr a3), some (si a4), some (si a5), some (si a6), none, some (si q2), some (si x5), some (si x6), none, none, none, none, none, none] dL_isAdded_74 (by decide) rfl rfl ?_
  refine v_iload (pc := 76) (i := 9) dL_isAdded_76 rfl ?_
  refine mgW (X := fun q7 => gV G mL_isAdded 56 Q 98 [some (sr a0), some (sr a1), some (sr a2), some (sr a3), some (si a4), some (si a5), some (si a6), none, none, some (si x5), some (si x6), none, none, none, none, none, none] [si q7] (14) (367) h) hF (fun K7 hj7 hF => ?_) (fun q7 hF => ?_)
  · refine v_if_eq (pc := 78) 97 dL_isAdded_78 rfl (fun hc => ?_) (fun hc => ?_)
    · replace hF := (ifP hF).1 hc
      refine v_iconst (pc := 97) (v := (0 : Int32)) dL_isAdded_97 rfl ?_
      exact v_lle [some (sr a0), some (sr a1), some (sr a2), some (sr a3), some (si a4), some (si a5), some (si a6), none, none, some (si x5), some (si x6), none, none, none, none, none, none] ⟨rfl, rfl, rfl, rfl, rfl, rfl, rfl, rfl, rfl, trivial⟩ (hj7 (0 : Int32) hF)
    replace hF := (ifP hF).2 hc
    refine v_iload (pc := 81) (i := 8) dL_isAdded_81 rfl ?_
    refine v_if_eq (pc := 83) 97 dL_isAdded_83 rfl (fun hc => ?_) (fun hc => ?_)
    · replace hF := (ifP hF).1 hc
      refine v_iconst (pc := 97) (v := (0 : Int32)) dL_isAdded_97 rfl ?_
      exact v_lle [some (sr a0), some (sr a1), some (sr a2), some (sr a3), some (si a4), some (si a5), some (si a6), none, none, some (si x5), some (si x6), none, none, none, none, none, none] ⟨rfl, rfl, rfl, rfl, rfl, rfl, rfl, rfl, rfl, trivial⟩ (hj7 (0 : Int32) hF)
    replace hF := (ifP hF).2 hc
    refine v_iload (pc := 86) (i := 10) dL_isAdded_86 rfl ?_
    refine v_bipush (pc := 88) (v := (10 : Int32)) dL_isAdded_88 rfl ?_
    refine v_icmp_ge (pc := 90) 97 dL_isAdded_90 rfl (fun hc => ?_) (fun hc => ?_)
    · replace hF := (ifP hF).1 hc
      refine v_iconst (pc := 97) (v := (0 : Int32)) dL_isAdded_97 rfl ?_
      exact v_lle [some (sr a0), some (sr a1), some (sr a2), some (sr a3), some (si a4), some (si a5), some (si a6), none, none, some (si x5), some (si x6), none, none, none, none, none, none] ⟨rfl, rfl, rfl, rfl, rfl, rfl, rfl, rfl, rfl, trivial⟩ (hj7 (0 : Int32) hF)
    replace hF := (ifP hF).2 hc
    refine v_iconst (pc := 93) (v := (1 : Int32)) dL_isAdded_93 rfl ?_
    refine v_goto (pc := 94) 98 dL_isAdded_94 rfl ?_
    exact v_lle [some (sr a0), some (sr a1), some (sr a2), some (sr a3), some (si a4), some (si a5), some (si a6), none, none, some (si x5), some (si x6), none, none, none, none, none, none] ⟨rfl, rfl, rfl, rfl, rfl, rfl, rfl, rfl, rfl, trivial⟩ (hj7 (1 : Int32) hF)
  refine v_istore (pc := 98) (i := 11) [some (sr a0), some (sr a1), some (sr a2), some (sr a3), some (si a4), some (si a5), some (si a6), none, none, some (si x5), some (si x6), some (si q7), none, none, none, none, none] dL_isAdded_98 (by decide) rfl rfl ?_
  refine v_iload (pc := 100) (i := 6) dL_isAdded_100 rfl ?_
  refine v_bipush (pc := 102) (v := (13 : Int32)) dL_isAdded_102 rfl ?_
  refine s_idiv (f := some) (pc := 104) dL_isAdded_104 (okB_bs hF) (fun hF => ?_)
  replace hF := okB_some hF
  refine v_iload (pc := 105) (i := 10) dL_isAdded_105 rfl ?_
  refine v_iconst (pc := 107) (v := (1 : Int32)) dL_isAdded_107 rfl ?_
  refine v_iadd (pc := 108) dL_isAdded_108 ?_
  refine s_irem (f := some) (pc := 109) dL_isAdded_109 (okB_bs hF) (fun hF => ?_)
  replace hF := okB_some hF
  refine v_istore (pc := 110) (i := 12) [some (sr a0), some (sr a1), some (sr a2), some (sr a3), some (si a4), some (si a5), some (si a6), none, none, some (si x5), some (si x6), some (si q7), some (si ((a6 / (13 : Int32)) - (a6 / (13 : Int32)) / (x6 + (1 : Int32)) * (x6 + (1 : Int32)))), none, none, none, none] dL_isAdded_110 (by decide) rfl rfl ?_
  refine v_iload (pc := 112) (i := 11) dL_isAdded_112 rfl ?_
  refine mgW (X := fun q8 => gV G mL_isAdded 56 Q 127 [some (sr a0), some (sr a1), some (sr a2), some (sr a3), some (si a4), some (si a5), none, none, none, some (si x5), none, some (si q7), some (si ((a6 / (13 : Int32)) - (a6 / (13 : Int32)) / (x6 + (1 : Int32)) * (x6 + (1 : Int32)))), none, none, none, none] [sl q8.1] (10) (343) q8.2) hF (fun K8 hj8 hF => ?_) (fun q8 hF => ?_)
  · refine v_if_eq (pc := 114) 126 dL_isAdded_114 rfl (fun hc => ?_) (fun hc => ?_)
    · replace hF := (ifP hF).1 hc
      refine v_lconst (pc := 126) (v := (0 : Int64)) dL_isAdded_126 rfl ?_
      exact v_room (k' := 10) (n' := 343) (by decide) (by decide) <| v_lle [some (sr a0), some (sr a1), some (sr a2), some (sr a3), some (si a4), some (si a5), none, none, none, some (si x5), none, some (si q7), some (si ((a6 / (13 : Int32)) - (a6 / (13 : Int32)) / (x6 + (1 : Int32)) * (x6 + (1 : Int32)))), none, none, none, none] ⟨rfl, rfl, rfl, rfl, rfl, rfl, rfl, rfl, rfl, trivial⟩ (hj8 ((0 : Int64), h) hF)
    replace hF := (ifP hF).2 hc
    refine v_aload_n (pc := 117) (i := 0) dL_isAdded_117 rfl rfl ?_
    refine v_iload (pc := 118) (i := 6) dL_isAdded_118 rfl ?_
    refine yw_S (pc := 120) (as := [sr a0, si a6]) (st := []) (N := mL_drafts) (k := 10) (n := 343) (k1 := 4) (n1 := 24) gL _ dL_isAdded_120 lkL_222 caL_drafts csL_drafts rfl rfl (tL_drafts a0 a6 h _ _ (fun x9 h9 hx => ⟨x9, rfl, hx⟩) hF) ⟨by decide, by decide⟩ (Nat.le_of_ble_eq_true rfl) (fun x9 h10 hF => ?_)
    show gV G mL_isAdded 56 Q 123 [some (sr a0), some (sr a1), some (sr a2), some (sr a3), some (si a4), some (si a5), some (si a6), none, none, some (si x5), some (si x6), some (si q7), some (si ((a6 / (13 : Int32)) - (a6 / (13 : Int32)) / (x6 + (1 : Int32)) * (x6 + (1 : Int32)))), none, none, none, none] [sl x9] (10) (343) h10
    refine v_goto (pc := 123) 127 dL_isAdded_123 rfl ?_
    exact v_lle [some (sr a0), some (sr a1), some (sr a2), some (sr a3), some (si a4), some (si a5), none, none, none, some (si x5), none, some (si q7), some (si ((a6 / (13 : Int32)) - (a6 / (13 : Int32)) / (x6 + (1 : Int32)) * (x6 + (1 : Int32)))), none, none, none, none] ⟨rfl, rfl, rfl, rfl, rfl, rfl, rfl, rfl, rfl, trivial⟩ (hj8 (x9, h10) hF)
  refine v_lstore (pc := 127) (i := 13) [some (sr a0), some (sr a1), some (sr a2), some (sr a3), some (si a4), some (si a5), none, none, none, some (si x5), none, some (si q7), some (si ((a6 / (13 : Int32)) - (a6 / (13 : Int32)) / (x6 + (1 : Int32)) * (x6 + (1 : Int32)))), some (sl q8.1), none, none, none] dL_isAdded_127 (by decide) rfl rfl ?_
  refine v_aload_n (pc := 129) (i := 0) dL_isAdded_129 rfl rfl ?_
  refine v_iconst (pc := 130) (v := (0 : Int32)) dL_isAdded_130 rfl ?_
  refine v_iload (pc := 131) (i := 4) dL_isAdded_131 rfl ?_
  refine v_iload (pc := 133) (i := 9) dL_isAdded_133 rfl ?_
  refine mgW (X := fun q11 => gV G mL_isAdded 56 Q 144 [none, some (sr a1), some (sr a2), some (sr a3), some (si a4), some (si a5), none, none, none, some (si x5), none, some (si q7), some (si ((a6 / (13 : Int32)) - (a6 / (13 : Int32)) / (x6 + (1 : Int32)) * (x6 + (1 : Int32)))), some (sl q8.1), none, none, none] [si q11, si a4, si (0 : Int32), sr a0] (10) (343) q8.2) hF (fun K11 hj11 hF => ?_) (fun q11 hF => ?_)
  · refine v_if_eq (pc := 135) 143 dL_isAdded_135 rfl (fun hc => ?_) (fun hc => ?_)
    · replace hF := (ifP hF).1 hc
      refine v_iconst (pc := 143) (v := (0 : Int32)) dL_isAdded_143 rfl ?_
      exact v_lle [none, some (sr a1), some (sr a2), some (sr a3), some (si a4), some (si a5), none, none, none, some (si x5), none, some (si q7), some (si ((a6 / (13 : Int32)) - (a6 / (13 : Int32)) / (x6 + (1 : Int32)) * (x6 + (1 : Int32)))), some (sl q8.1), none, none, none] ⟨rfl, rfl, rfl, rfl, rfl, rfl, rfl, rfl, rfl, trivial⟩ (hj11 (0 : Int32) hF)
    replace hF := (ifP hF).2 hc
    refine v_iload (pc := 138) (i := 12) dL_isAdded_138 rfl ?_
    refine v_goto (pc := 140) 144 dL_isAdded_140 rfl ?_
    exact v_lle [none, some (sr a1), some (sr a2), some (sr a3), some (si a4), some (si a5), none, none, none, some (si x5), none, some (si q7), some (si ((a6 / (13 : Int32)) - (a6 / (13 : Int32)) / (x6 + (1 : Int32)) * (x6 + (1 : Int32)))), some (sl q8.1), none, none, none] ⟨rfl, rfl, rfl, rfl, rfl, rfl, rfl, rfl, rfl, trivial⟩ (hj11 ((a6 / (13 : Int32)) - (a6 / (13 : Int32)) / (x6 + (1 : Int32)) * (x6 + (1 : Int32))) hF)
  refine v_iload (pc := 144) (i := 5) dL_isAdded_144 rfl ?_
  refine ye_S (pc := 146) (as := [sr a0, si (0 : Int32), si a4, si q11, si a5]) (st := []) (N := mL_does) (k := 0) (n := 0) (k1 := 10) (n1 := 343) dL_isAdded_146 lkL_194 caL_does rfl (fun Q1 hq => tL_does a0 (0 : Int32) a4 q11 a5 q8.2 Q1 hq) ⟨by decide, by decide⟩ (Nat.le_of_ble_eq_true rfl) hF (fun x12 h13 hF => ?_)
  show gV G mL_isAdded 56 Q 149 [none, some (sr a1), some (sr a2), some (sr a3), some (si a4), some (si a5), none, none, none, some (si x5), none, some (si q7), some (si ((a6 / (13 : Int32)) - (a6 / (13 : Int32)) / (x6 + (1 : Int32)) * (x6 + (1 : Int32)))), some (sl q8.1), none, none, none] [si x12] (0) (0) h13
  refine v_iload (pc := 149) (i := 9) dL_isAdded_149 rfl ?_
  refine mgW (X := fun q14 => gV G mL_isAdded 56 Q 172 [none, some (sr a1), some (sr a2), some (sr a3), some (si a4), some (si a5), none, none, none, none, none, some (si q7), some (si ((a6 / (13 : Int32)) - (a6 / (13 : Int32)) / (x6 + (1 : Int32)) * (x6 + (1 : Int32)))), some (sl q8.1), none, none, none] [si q14, si x12] (0) (0) h13) hF (fun K14 hj14 hF => ?_) (fun q14 hF => ?_)
  · refine v_if_ne (pc := 151) 159 dL_isAdded_151 rfl (fun hc => ?_) (fun hc => ?_)
    · replace hF := (ifP hF).2 hc
      refine v_iload (pc := 159) (i := 11) dL_isAdded_159 rfl ?_
      refine v_if_eq (pc := 161) 170 dL_isAdded_161 rfl (fun hc => ?_) (fun hc => ?_)
      · replace hF := (ifP hF).1 hc
        refine v_bipush (pc := 170) (v := (-13 : Int32)) dL_isAdded_170 rfl ?_
        exact v_lle [none, some (sr a1), some (sr a2), some (sr a3), some (si a4), some (si a5), none, none, none, none, none, some (si q7), some (si ((a6 / (13 : Int32)) - (a6 / (13 : Int32)) / (x6 + (1 : Int32)) * (x6 + (1 : Int32)))), some (sl q8.1), none, none, none] ⟨rfl, rfl, rfl, rfl, rfl, rfl, rfl, rfl, trivial⟩ (hj14 (-13 : Int32) hF)
      replace hF := (ifP hF).2 hc
      refine v_aload_n (pc := 164) (i := 1) dL_isAdded_164 rfl rfl ?_
      refine v_iconst (pc := 165) (v := (0 : Int32)) dL_isAdded_165 rfl ?_
      refine s_iald (f := some) (pc := 166) dL_isAdded_166 (okB_bs hF) (fun x15 hF => ?_)
      replace hF := okB_some hF
      refine v_goto (pc := 167) 172 dL_isAdded_167 rfl ?_
      exact v_lle [none, some (sr a1), some (sr a2), some (sr a3), some (si a4), some (si a5), none, none, none, none, none, some (si q7), some (si ((a6 / (13 : Int32)) - (a6 / (13 : Int32)) / (x6 + (1 : Int32)) * (x6 + (1 : Int32)))), some (sl q8.1), none, none, none] ⟨rfl, rfl, rfl, rfl, rfl, rfl, rfl, rfl, trivial⟩ (hj14 x15 hF)
    replace hF := (ifP hF).1 hc
    refine v_bipush (pc := 154) (v := (-11 : Int32)) dL_isAdded_154 rfl ?_
    refine v_goto (pc := 156) 172 dL_isAdded_156 rfl ?_
    exact v_lle [none, some (sr a1), some (sr a2), some (sr a3), some (si a4), some (si a5), none, none, none, none, none, some (si q7), some (si ((a6 / (13 : Int32)) - (a6 / (13 : Int32)) / (x6 + (1 : Int32)) * (x6 + (1 : Int32)))), some (sl q8.1), none, none, none] ⟨rfl, rfl, rfl, rfl, rfl, rfl, rfl, rfl, trivial⟩ (hj14 (-11 : Int32) hF)
  refine mgW (X := fun q16 => gV G mL_isAdded 56 Q 180 [none, some (sr a1), some (sr a2), some (sr a3), some (si a4), some (si a5), none, none, none, none, none, some (si q7), some (si ((a6 / (13 : Int32)) - (a6 / (13 : Int32)) / (x6 + (1 : Int32)) * (x6 + (1 : Int32)))), some (sl q8.1), none, none, none] [si q16] (0) (0) h13) hF (fun K16 hj16 hF => ?_) (fun q16 hF => ?_)
  · refine v_icmp_ne (pc := 172) 179 dL_isAdded_172 rfl (fun hc => ?_) (fun hc => ?_)
    · replace hF := (ifP hF).2 hc
      refine v_iconst (pc := 179) (v := (0 : Int32)) dL_isAdded_179 rfl ?_
      exact v_lle [none, some (sr a1), some (sr a2), some (sr a3), some (si a4), some (si a5), none, none, none, none, none, some (si q7), some (si ((a6 / (13 : Int32)) - (a6 / (13 : Int32)) / (x6 + (1 : Int32)) * (x6 + (1 : Int32)))), some (sl q8.1), none, none, none] ⟨rfl, rfl, rfl, rfl, rfl, rfl, rfl, rfl, trivial⟩ (hj16 (0 : Int32) hF)
    replace hF := (ifP hF).1 hc
    refine v_iconst (pc := 175) (v := (1 : Int32)) dL_isAdded_175 rfl ?_
    refine v_goto (pc := 176) 180 dL_isAdded_176 rfl ?_
    exact v_lle [none, some (sr a1), some (sr a2), some (sr a3), some (si a4), some (si a5), none, none, none, none, none, some (si q7), some (si ((a6 / (13 : Int32)) - (a6 / (13 : Int32)) / (x6 + (1 : Int32)) * (x6 + (1 : Int32)))), some (sl q8.1), none, none, none] ⟨rfl, rfl, rfl, rfl, rfl, rfl, rfl, rfl, trivial⟩ (hj16 (1 : Int32) hF)
  refine v_istore (pc := 180) (i := 15) [none, some (sr a1), some (sr a2), some (sr a3), some (si a4), some (si a5), none, none, none, none, none, some (si q7), some (si ((a6 / (13 : Int32)) - (a6 / (13 : Int32)) / (x6 + (1 : Int32)) * (x6 + (1 : Int32)))), some (sl q8.1), none, some (si q16), none] dL_isAdded_180 (by decide) rfl rfl ?_
  refine v_iload (pc := 182) (i := 11) dL_isAdded_182 rfl ?_
  refine v_if_eq (pc := 184) 308 dL_isAdded_184 rfl (fun hc => ?_) (fun hc => ?_)
  · replace hF := (ifP hF).1 hc
    refine v_iload (pc := 308) (i := 15) dL_isAdded_308 rfl ?_
    exact s_zret (f := some) (pc := 310) dL_isAdded_310 rfl (okB_bs hF) (fun hF => hK _ _ (okB_some (P := fun _ => K q16 h13) (b := ()) hF))
  replace hF := (ifP hF).2 hc
  refine v_iconst (pc := 187) (v := (1 : Int32)) dL_isAdded_187 rfl ?_
  refine v_istore (pc := 188) (i := 16) [none, some (sr a1), some (sr a2), some (sr a3), some (si a4), some (si a5), none, none, none, none, none, some (si q7), some (si ((a6 / (13 : Int32)) - (a6 / (13 : Int32)) / (x6 + (1 : Int32)) * (x6 + (1 : Int32)))), some (sl q8.1), none, some (si q16), some (si (1 : Int32))] dL_isAdded_188 (by decide) rfl rfl ?_
  refine mgW (X := fun q17 => gV G mL_isAdded 56 Q 249 [none, some (sr a1), some (sr a2), some (sr a3), some (si a4), some (si a5), none, none, none, none, none, none, some (si ((a6 / (13 : Int32)) - (a6 / (13 : Int32)) / (x6 + (1 : Int32)) * (x6 + (1 : Int32)))), some (sl q8.1), none, some (si q16), none] [] (0) (0) q17) hF (fun _ hj hF => v_lle [none, some (sr a1), some (sr a2), some (sr a3), some (si a4), some (si a5), none, none, none, none, none, none, some (si ((a6 / (13 : Int32)) - (a6 / (13 : Int32)) / (x6 + (1 : Int32)) * (x6 + (1 : Int32)))), some (sl q8.1), none, some (si q16), some (si (1 : Int32))] ⟨rfl, rfl, rfl, rfl, rfl, rfl, rfl, rfl, rfl, trivial⟩ (lL_isAdded_190 a1 a2 a3 a4 a5 ((a6 / (13 : Int32)) - (a6 / (13 : Int32)) / (x6 + (1 : Int32)) * (x6 + (1 : Int32))) q8.1 q16 hj FU ((1 : Int32), h13) hF)) (fun q17 hF => ?_)
  refine v_aload_n (pc := 249) (i := 2) dL_isAdded_249 rfl rfl ?_
  refine v_bipush (pc := 250) (v := (6 : Int32)) dL_isAdded_250 rfl ?_
  refine v_aload_n (pc := 252) (i := 1) dL_isAdded_252 rfl rfl ?_
  refine v_iconst (pc := 253) (v := (0 : Int32)) dL_isAdded_253 rfl ?_
  refine s_iald (f := some) (pc := 254) dL_isAdded_254 (okB_bs hF) (fun x18 hF => ?_)
  replace hF := okB_some hF
  refine v_imul (pc := 255) dL_isAdded_255 ?_
  refine v_iload (pc := 256) (i := 5) dL_isAdded_256 rfl ?_
  refine s_iast (f := some) (pc := 258) dL_isAdded_258 (okB_bs hF) (fun h19 hF => ?_)
  replace hF := okB_some hF
  refine v_aload_n (pc := 259) (i := 2) dL_isAdded_259 rfl rfl ?_
  refine v_bipush (pc := 260) (v := (6 : Int32)) dL_isAdded_260 rfl ?_
  refine v_aload_n (pc := 262) (i := 1) dL_isAdded_262 rfl rfl ?_
  refine v_iconst (pc := 263) (v := (0 : Int32)) dL_isAdded_263 rfl ?_
  refine s_iald (f := some) (pc := 264) dL_isAdded_264 (okB_bs hF) (fun x20 hF => ?_)
  replace hF := okB_some hF
  refine v_imul (pc := 265) dL_isAdded_265 ?_
  refine v_iconst (pc := 266) (v := (1 : Int32)) dL_isAdded_266 rfl ?_
  refine v_iadd (pc := 267) dL_isAdded_267 ?_
  refine v_iload (pc := 268) (i := 4) dL_isAdded_268 rfl ?_
  refine s_iast (f := some) (pc := 270) dL_isAdded_270 (okB_bs hF) (fun h21 hF => ?_)
  replace hF := okB_some hF
  refine v_aload_n (pc := 271) (i := 2) dL_isAdded_271 rfl rfl ?_
  refine v_bipush (pc := 272) (v := (6 : Int32)) dL_isAdded_272 rfl ?_
  refine v_aload_n (pc := 274) (i := 1) dL_isAdded_274 rfl rfl ?_
  refine v_iconst (pc := 275) (v := (0 : Int32)) dL_isAdded_275 rfl ?_
  refine s_iald (f := some) (pc := 276) dL_isAdded_276 (okB_bs hF) (fun x22 hF => ?_)
  replace hF := okB_some hF
  refine v_imul (pc := 277) dL_isAdded_277 ?_
  refine v_iconst (pc := 278) (v := (2 : Int32)) dL_isAdded_278 rfl ?_
  refine v_iadd (pc := 279) dL_isAdded_279 ?_
  refine v_iload (pc := 280) (i := 12) dL_isAdded_280 rfl ?_
  refine s_iast (f := some) (pc := 282) dL_isAdded_282 (okB_bs hF) (fun h23 hF => ?_)
  replace hF := okB_some hF
  refine v_aload_n (pc := 283) (i := 2) dL_isAdded_283 rfl rfl ?_
  refine v_bipush (pc := 284) (v := (6 : Int32)) dL_isAdded_284 rfl ?_
  refine v_aload_n (pc := 286) (i := 1) dL_isAdded_286 rfl rfl ?_
  refine v_iconst (pc := 287) (v := (0 : Int32)) dL_isAdded_287 rfl ?_
  refine s_iald (f := some) (pc := 288) dL_isAdded_288 (okB_bs hF) (fun x24 hF => ?_)
  replace hF := okB_some hF
  refine v_imul (pc := 289) dL_isAdded_289 ?_
  refine v_iconst (pc := 290) (v := (3 : Int32)) dL_isAdded_290 rfl ?_
  refine v_iadd (pc := 291) dL_isAdded_291 ?_
  refine v_iconst (pc := 292) (v := (1 : Int32)) dL_isAdded_292 rfl ?_
  refine s_iast (f := some) (pc := 293) dL_isAdded_293 (okB_bs hF) (fun h25 hF => ?_)
  replace hF := okB_some hF
  refine v_aload_n (pc := 294) (i := 3) dL_isAdded_294 rfl rfl ?_
  refine v_aload_n (pc := 295) (i := 1) dL_isAdded_295 rfl rfl ?_
  refine v_iconst (pc := 296) (v := (0 : Int32)) dL_isAdded_296 rfl ?_
  refine s_iald (f := some) (pc := 297) dL_isAdded_297 (okB_bs hF) (fun x26 hF => ?_)
  replace hF := okB_some hF
  refine v_lload (pc := 298) (i := 13) dL_isAdded_298 rfl ?_
  refine s_last (f := some) (pc := 300) dL_isAdded_300 (okB_bs hF) (fun h27 hF => ?_)
  replace hF := okB_some hF
  refine v_aload_n (pc := 301) (i := 1) dL_isAdded_301 rfl rfl ?_
  refine v_iconst (pc := 302) (v := (0 : Int32)) dL_isAdded_302 rfl ?_
  refine v_dup2 (pc := 303) dL_isAdded_303 rfl rfl ?_
  refine s_iald (f := some) (pc := 304) dL_isAdded_304 (okB_bs hF) (fun x28 hF => ?_)
  replace hF := okB_some hF
  refine v_iconst (pc := 305) (v := (1 : Int32)) dL_isAdded_305 rfl ?_
  refine v_iadd (pc := 306) dL_isAdded_306 ?_
  refine s_iast (f := some) (pc := 307) dL_isAdded_307 (okB_bs hF) (fun h29 hF => ?_)
  replace hF := okB_some hF
  refine v_iload (pc := 308) (i := 15) dL_isAdded_308 rfl ?_
  exact s_zret (f := some) (pc := 310) dL_isAdded_310 rfl (okB_bs hF) (fun hF => hK _ _ (okB_some (P := fun _ => K q16 h29) (b := ()) hF))
