/-! ===== cases of the law ===== -/
theorem dL_law_228 : decode cL_law 228 = .ok (.aload_n 1, 1) := by decide +kernel
theorem dL_law_229 : decode cL_law 229 = .ok (.aload_n 0, 1) := by decide +kernel
theorem dL_law_230 : decode cL_law 230 = .ok (.iload 4, 2) := by decide +kernel
theorem dL_law_232 : decode cL_law 232 = .ok (.iconst 1, 1) := by decide +kernel
theorem dL_law_233 : decode cL_law 233 = .ok (.iadd, 1) := by decide +kernel
theorem dL_law_234 : decode cL_law 234 = .ok (.iaload, 1) := by decide +kernel
theorem dL_law_235 : decode cL_law 235 = .ok (.aload_n 3, 1) := by decide +kernel
theorem dL_law_236 : decode cL_law 236 = .ok (.invokestatic 117, 3) := by decide +kernel
theorem dL_law_239 : decode cL_law 239 = .ok (.istore 5, 2) := by decide +kernel
theorem dL_law_241 : decode cL_law 241 = .ok (.aload_n 2, 1) := by decide +kernel
theorem dL_law_242 : decode cL_law 242 = .ok (.aload_n 0, 1) := by decide +kernel
theorem dL_law_243 : decode cL_law 243 = .ok (.iload 4, 2) := by decide +kernel
theorem dL_law_245 : decode cL_law 245 = .ok (.iconst 1, 1) := by decide +kernel
theorem dL_law_246 : decode cL_law 246 = .ok (.iadd, 1) := by decide +kernel
theorem dL_law_247 : decode cL_law 247 = .ok (.iaload, 1) := by decide +kernel
theorem dL_law_248 : decode cL_law 248 = .ok (.invokevirtual 122, 3) := by decide +kernel
theorem dL_law_251 : decode cL_law 251 = .ok (.istore 6, 2) := by decide +kernel
theorem dL_law_253 : decode cL_law 253 = .ok (.aload_n 2, 1) := by decide +kernel
theorem dL_law_254 : decode cL_law 254 = .ok (.invokevirtual 123, 3) := by decide +kernel
theorem dL_law_257 : decode cL_law 257 = .ok (.iload 5, 2) := by decide +kernel
theorem dL_law_259 : decode cL_law 259 = .ok (.if_icmp .eq 5, 3) := by decide +kernel
theorem dL_law_264 : decode cL_law 264 = .ok (.iload 5, 2) := by decide +kernel
theorem dL_law_266 : decode cL_law 266 = .ok (.ifCond .ne 15, 3) := by decide +kernel
theorem dL_law_269 : decode cL_law 269 = .ok (.aload_n 3, 1) := by decide +kernel
theorem dL_law_270 : decode cL_law 270 = .ok (.iconst 0, 1) := by decide +kernel
theorem dL_law_271 : decode cL_law 271 = .ok (.laload, 1) := by decide +kernel
theorem dL_law_272 : decode cL_law 272 = .ok (.iload 6, 2) := by decide +kernel
theorem dL_law_274 : decode cL_law 274 = .ok (.i2l, 1) := by decide +kernel
theorem dL_law_275 : decode cL_law 275 = .ok (.lcmp, 1) := by decide +kernel
theorem dL_law_276 : decode cL_law 276 = .ok (.ifCond .eq 5, 3) := by decide +kernel
theorem dL_law_281 : decode cL_law 281 = .ok (.goto 2032, 3) := by decide +kernel
theorem lkL_117 : Cond.methodLink RL 117 yL_draft ∈ XW := xw 596 (by decide +kernel) rfl
theorem lkL_122 : Cond.methodLink RL 122 yX11_draft ∈ XW := xw 1565 (by decide +kernel) rfl
theorem lkL_123 : Cond.methodLink RL 123 yX11_thrown ∈ XW := xw 1561 (by decide +kernel) rfl
theorem kL_draft {nm : String} {hh : List (Nat × Nat × Nat × Nat)} {G : gG} {b L x m o i : Nat} {xs : Nat → Int32} {h h' : hp} {Q : hQ} {K N : Nat} {M : hp → hp} (a : Int32 ⊕ String) (r : aS) (hb : ¬ gb G ≤ b) (hL : L ≤ 2048) (hi : i + 4 ≤ L) (hx : (hT h x).1 = 10) (ho : hT h' o = (24, 1)) (hS : ∀ Q1 : hQ, Q1 (oA a) h' → gS G mX10_draft 6 1 6 [sr (some x), si (xs (i + 1))] h Q1) (hA : An [exA, exS] a r) (hM : ∀ h2, HH h' o i2l9 a h2 → MM G mX11_draft 2 [si (xs (i + 1))] m o r M h2) (kk : ∀ h2, HH h' o i2l9 a h2 → gZ (LF b L xs) G (mLw nm hh) 60 Q 2313 [some (sr (some b)), some (sr (some x)), some (sr (some m)), some (sr (some o)), some (si (nI i)), none, none] [] K N (M h2)) : gZ (LF b L xs) G (mLw nm hh) 60 Q 228 [some (sr (some b)), some (sr (some x)), some (sr (some m)), some (sr (some o)), some (si (nI i)), none, none] [] (1 + K) (6 + N) h := by
  refine z_aload_n (pc := 228) (i := 1) dL_law_228 rfl rfl ?_
  refine y_arg (pc := 229) (i := i) 1 hb hL hi (by decide) rfl dL_law_229 dL_law_230 dL_law_232 dL_law_233 dL_law_234 rfl rfl ?_
  refine z_aload_n (pc := 235) (i := 3) dL_law_235 rfl rfl ?_
  refine y_X (pc := 236) (as := [sr (some x), si (xs (i + 1)), sr (some o)]) (st := []) (N := mL_draft) (k := K) (n := N) (k1 := 1) (n1 := 6) (fun _ z => z.1) dL_law_236 lkL_117 caL_draft rfl (wL_draft a hx ho hS (hA.wr o i2l9 h')) ⟨by decide, by decide⟩ (Nat.le_of_ble_eq_true rfl) (fun v h2 q => ?_) (fun E h2 q => nomatch q.1)
  obtain ⟨q1, q2⟩ := q
  have q3 : v = some (si r.1) := Sum.inl.inj q1
  subst q3
  show gZ (LF b L xs) G (mLw nm hh) 60 Q 239 [some (sr (some b)), some (sr (some x)), some (sr (some m)), some (sr (some o)), some (si (nI i)), none, none] [si r.1] K N h2
  obtain ⟨m1, m2, m3, m4, m5, m6⟩ := hM h2 q2
  refine z_istore (pc := 239) (i := 5) [some (sr (some b)), some (sr (some x)), some (sr (some m)), some (sr (some o)), some (si (nI i)), some (si r.1), none] dL_law_239 (show 5 < 7 by decide) rfl rfl ?_
  refine z_aload_n (pc := 241) (i := 2) dL_law_241 rfl rfl ?_
  refine y_arg (pc := 242) (i := i) 1 hb hL hi (by decide) rfl dL_law_242 dL_law_243 dL_law_245 dL_law_246 dL_law_247 rfl rfl ?_
  refine z_room (k' := 0 + K) (n' := 0 + N) (by omega) (by omega) ?_
  refine y_V (pc := 248) (as := [si (xs (i + 1))]) (st := []) (ci := 10) (N := mX11_draft) (k := K) (n := N) (k1 := 0) (n1 := 0) dL_law_248 lkL_122 caX11_draft cvX11_draft rfl (by decide) rfl m1 (m2 (fun o9 h9 => o9 = .inl (some (si r.2.1)) ∧ h9 = M h2) ⟨rfl, rfl⟩) ⟨by decide, by decide⟩ (Nat.le_of_ble_eq_true rfl) (fun v h3 q => ?_) (fun E h3 q => nomatch q.1)
  obtain ⟨q1, rfl⟩ := q
  have q3 : v = some (si r.2.1) := Sum.inl.inj q1
  subst q3
  show gZ (LF b L xs) G (mLw nm hh) 60 Q 251 [some (sr (some b)), some (sr (some x)), some (sr (some m)), some (sr (some o)), some (si (nI i)), some (si r.1), none] [si r.2.1] K N (M h2)
  refine z_istore (pc := 251) (i := 6) [some (sr (some b)), some (sr (some x)), some (sr (some m)), some (sr (some o)), some (si (nI i)), some (si r.1), some (si r.2.1)] dL_law_251 (show 6 < 7 by decide) rfl rfl ?_
  refine z_aload_n (pc := 253) (i := 2) dL_law_253 rfl rfl ?_
  refine z_room (k' := 0 + K) (n' := 0 + N) (by omega) (by omega) ?_
  refine y_V (pc := 254) (as := []) (st := []) (ci := 10) (N := mX11_thrown) (k := K) (n := N) (k1 := 0) (n1 := 0) dL_law_254 lkL_123 caX11_thrown cvX11_thrown rfl (by decide) rfl m3 (m4 (fun o9 h9 => o9 = .inl (some (si r.1)) ∧ h9 = M h2) ⟨rfl, rfl⟩) ⟨by decide, by decide⟩ (Nat.le_of_ble_eq_true rfl) (fun v h3 q => ?_) (fun E h3 q => nomatch q.1)
  obtain ⟨q1, rfl⟩ := q
  have q3 : v = some (si r.1) := Sum.inl.inj q1
  subst q3
  show gZ (LF b L xs) G (mLw nm hh) 60 Q 257 [some (sr (some b)), some (sr (some x)), some (sr (some m)), some (sr (some o)), some (si (nI i)), some (si r.1), some (si r.2.1)] [si r.1] K N (M h2)
  refine z_iload (pc := 257) (i := 5) dL_law_257 rfl ?_
  refine z_icmp_eq (pc := 259) 264 dL_law_259 rfl (fun _ => ?_) (fun hc => absurd rfl hc)
  refine z_iload (pc := 264) (i := 5) dL_law_264 rfl ?_
  refine z_if_ne (pc := 266) 281 dL_law_266 rfl (fun hc => ?_) (fun hc => ?_)
  · refine z_goto (pc := 281) 2313 dL_law_281 rfl ?_
    exact z_less [some (sr (some b)), some (sr (some x)), some (sr (some m)), some (sr (some o)), some (si (nI i)), none, none] law_less (kk h2 q2)
  · refine z_aload_n (pc := 269) (i := 3) dL_law_269 rfl rfl ?_
    refine z_iconst (pc := 270) (v := 0) dL_law_270 rfl ?_
    refine z_lald (pc := 271) dL_law_271 (by rw [m5]) (by rw [m5]; exact in0) ?_
    have hv : hJ (M h2) o (0 : Int32).toNatClampNeg = i2l9 r.2.1 := (show hJ (M h2) o 0 = _ by rw [m6]; exact hA.out (by decide) hc q2)
    rw [hv]
    refine z_iload (pc := 272) (i := 6) dL_law_272 rfl ?_
    refine z_i2l (pc := 274) dL_law_274 ?_
    refine z_lcmp (pc := 275) dL_law_275 ?_
    refine z_if_eq (pc := 276) 281 dL_law_276 rfl (fun _ => ?_) (fun hc9 => absurd (lg_self _) hc9)
    refine z_goto (pc := 281) 2313 dL_law_281 rfl ?_
    exact z_less [some (sr (some b)), some (sr (some x)), some (sr (some m)), some (sr (some o)), some (si (nI i)), none, none] law_less (kk h2 q2)
theorem dL_law_284 : decode cL_law 284 = .ok (.aload_n 1, 1) := by decide +kernel
theorem dL_law_285 : decode cL_law 285 = .ok (.aload_n 0, 1) := by decide +kernel
theorem dL_law_286 : decode cL_law 286 = .ok (.iload 4, 2) := by decide +kernel
theorem dL_law_288 : decode cL_law 288 = .ok (.iconst 1, 1) := by decide +kernel
theorem dL_law_289 : decode cL_law 289 = .ok (.iadd, 1) := by decide +kernel
theorem dL_law_290 : decode cL_law 290 = .ok (.iaload, 1) := by decide +kernel
theorem dL_law_291 : decode cL_law 291 = .ok (.aload_n 0, 1) := by decide +kernel
theorem dL_law_292 : decode cL_law 292 = .ok (.iload 4, 2) := by decide +kernel
theorem dL_law_294 : decode cL_law 294 = .ok (.iconst 2, 1) := by decide +kernel
theorem dL_law_295 : decode cL_law 295 = .ok (.iadd, 1) := by decide +kernel
theorem dL_law_296 : decode cL_law 296 = .ok (.iaload, 1) := by decide +kernel
theorem dL_law_297 : decode cL_law 297 = .ok (.aload_n 0, 1) := by decide +kernel
theorem dL_law_298 : decode cL_law 298 = .ok (.iload 4, 2) := by decide +kernel
theorem dL_law_300 : decode cL_law 300 = .ok (.iconst 3, 1) := by decide +kernel
theorem dL_law_301 : decode cL_law 301 = .ok (.iadd, 1) := by decide +kernel
theorem dL_law_302 : decode cL_law 302 = .ok (.iaload, 1) := by decide +kernel
theorem dL_law_303 : decode cL_law 303 = .ok (.aload_n 3, 1) := by decide +kernel
theorem dL_law_304 : decode cL_law 304 = .ok (.invokestatic 127, 3) := by decide +kernel
theorem dL_law_307 : decode cL_law 307 = .ok (.istore 5, 2) := by decide +kernel
theorem dL_law_309 : decode cL_law 309 = .ok (.aload_n 2, 1) := by decide +kernel
theorem dL_law_310 : decode cL_law 310 = .ok (.aload_n 0, 1) := by decide +kernel
theorem dL_law_311 : decode cL_law 311 = .ok (.iload 4, 2) := by decide +kernel
theorem dL_law_313 : decode cL_law 313 = .ok (.iconst 1, 1) := by decide +kernel
theorem dL_law_314 : decode cL_law 314 = .ok (.iadd, 1) := by decide +kernel
theorem dL_law_315 : decode cL_law 315 = .ok (.iaload, 1) := by decide +kernel
theorem dL_law_316 : decode cL_law 316 = .ok (.aload_n 0, 1) := by decide +kernel
theorem dL_law_317 : decode cL_law 317 = .ok (.iload 4, 2) := by decide +kernel
theorem dL_law_319 : decode cL_law 319 = .ok (.iconst 2, 1) := by decide +kernel
theorem dL_law_320 : decode cL_law 320 = .ok (.iadd, 1) := by decide +kernel
theorem dL_law_321 : decode cL_law 321 = .ok (.iaload, 1) := by decide +kernel
theorem dL_law_322 : decode cL_law 322 = .ok (.aload_n 0, 1) := by decide +kernel
theorem dL_law_323 : decode cL_law 323 = .ok (.iload 4, 2) := by decide +kernel
theorem dL_law_325 : decode cL_law 325 = .ok (.iconst 3, 1) := by decide +kernel
theorem dL_law_326 : decode cL_law 326 = .ok (.iadd, 1) := by decide +kernel
theorem dL_law_327 : decode cL_law 327 = .ok (.iaload, 1) := by decide +kernel
theorem dL_law_328 : decode cL_law 328 = .ok (.invokevirtual 130, 3) := by decide +kernel
theorem dL_law_331 : decode cL_law 331 = .ok (.istore 6, 2) := by decide +kernel
theorem dL_law_333 : decode cL_law 333 = .ok (.aload_n 2, 1) := by decide +kernel
theorem dL_law_334 : decode cL_law 334 = .ok (.invokevirtual 123, 3) := by decide +kernel
theorem dL_law_337 : decode cL_law 337 = .ok (.iload 5, 2) := by decide +kernel
theorem dL_law_339 : decode cL_law 339 = .ok (.if_icmp .eq 5, 3) := by decide +kernel
theorem dL_law_344 : decode cL_law 344 = .ok (.iload 5, 2) := by decide +kernel
theorem dL_law_346 : decode cL_law 346 = .ok (.ifCond .ne 15, 3) := by decide +kernel
theorem dL_law_349 : decode cL_law 349 = .ok (.aload_n 3, 1) := by decide +kernel
theorem dL_law_350 : decode cL_law 350 = .ok (.iconst 0, 1) := by decide +kernel
theorem dL_law_351 : decode cL_law 351 = .ok (.laload, 1) := by decide +kernel
theorem dL_law_352 : decode cL_law 352 = .ok (.iload 6, 2) := by decide +kernel
theorem dL_law_354 : decode cL_law 354 = .ok (.i2l, 1) := by decide +kernel
theorem dL_law_355 : decode cL_law 355 = .ok (.lcmp, 1) := by decide +kernel
theorem dL_law_356 : decode cL_law 356 = .ok (.ifCond .eq 5, 3) := by decide +kernel
theorem dL_law_361 : decode cL_law 361 = .ok (.goto 1952, 3) := by decide +kernel
theorem lkL_127 : Cond.methodLink RL 127 yL_add ∈ XW := xw 694 (by decide +kernel) rfl
theorem lkL_130 : Cond.methodLink RL 130 yX11_add ∈ XW := xw 1577 (by decide +kernel) rfl
theorem kL_add {nm : String} {hh : List (Nat × Nat × Nat × Nat)} {G : gG} {b L x m o i : Nat} {xs : Nat → Int32} {h h' : hp} {Q : hQ} {K N : Nat} {M : hp → hp} (a : Int32 ⊕ String) (r : aS) (hb : ¬ gb G ≤ b) (hL : L ≤ 2048) (hi : i + 4 ≤ L) (hx : (hT h x).1 = 10) (ho : hT h' o = (24, 1)) (hS : ∀ Q1 : hQ, Q1 (oA a) h' → gS G mX10_add 54 10 343 [sr (some x), si (xs (i + 1)), si (xs (i + 2)), si (xs (i + 3))] h Q1) (hA : An [exI, exA, exS] a r) (hM : ∀ h2, HH h' o i2l9 a h2 → MM G mX11_add 6 [si (xs (i + 1)), si (xs (i + 2)), si (xs (i + 3))] m o r M h2) (kk : ∀ h2, HH h' o i2l9 a h2 → gZ (LF b L xs) G (mLw nm hh) 60 Q 2313 [some (sr (some b)), some (sr (some x)), some (sr (some m)), some (sr (some o)), some (si (nI i)), none, none] [] K N (M h2)) : gZ (LF b L xs) G (mLw nm hh) 60 Q 284 [some (sr (some b)), some (sr (some x)), some (sr (some m)), some (sr (some o)), some (si (nI i)), none, none] [] (10 + K) (343 + N) h := by
  refine z_aload_n (pc := 284) (i := 1) dL_law_284 rfl rfl ?_
  refine y_arg (pc := 285) (i := i) 1 hb hL hi (by decide) rfl dL_law_285 dL_law_286 dL_law_288 dL_law_289 dL_law_290 rfl rfl ?_
  refine y_arg (pc := 291) (i := i) 2 hb hL hi (by decide) rfl dL_law_291 dL_law_292 dL_law_294 dL_law_295 dL_law_296 rfl rfl ?_
  refine y_arg (pc := 297) (i := i) 3 hb hL hi (by decide) rfl dL_law_297 dL_law_298 dL_law_300 dL_law_301 dL_law_302 rfl rfl ?_
  refine z_aload_n (pc := 303) (i := 3) dL_law_303 rfl rfl ?_
  refine y_X (pc := 304) (as := [sr (some x), si (xs (i + 1)), si (xs (i + 2)), si (xs (i + 3)), sr (some o)]) (st := []) (N := mL_add) (k := K) (n := N) (k1 := 10) (n1 := 343) (fun _ z => z.1) dL_law_304 lkL_127 caL_add rfl (wL_add a hx ho hS (hA.wr o i2l9 h')) ⟨by decide, by decide⟩ (Nat.le_of_ble_eq_true rfl) (fun v h2 q => ?_) (fun E h2 q => nomatch q.1)
  obtain ⟨q1, q2⟩ := q
  have q3 : v = some (si r.1) := Sum.inl.inj q1
  subst q3
  show gZ (LF b L xs) G (mLw nm hh) 60 Q 307 [some (sr (some b)), some (sr (some x)), some (sr (some m)), some (sr (some o)), some (si (nI i)), none, none] [si r.1] K N h2
  obtain ⟨m1, m2, m3, m4, m5, m6⟩ := hM h2 q2
  refine z_istore (pc := 307) (i := 5) [some (sr (some b)), some (sr (some x)), some (sr (some m)), some (sr (some o)), some (si (nI i)), some (si r.1), none] dL_law_307 (show 5 < 7 by decide) rfl rfl ?_
  refine z_aload_n (pc := 309) (i := 2) dL_law_309 rfl rfl ?_
  refine y_arg (pc := 310) (i := i) 1 hb hL hi (by decide) rfl dL_law_310 dL_law_311 dL_law_313 dL_law_314 dL_law_315 rfl rfl ?_
  refine y_arg (pc := 316) (i := i) 2 hb hL hi (by decide) rfl dL_law_316 dL_law_317 dL_law_319 dL_law_320 dL_law_321 rfl rfl ?_
  refine y_arg (pc := 322) (i := i) 3 hb hL hi (by decide) rfl dL_law_322 dL_law_323 dL_law_325 dL_law_326 dL_law_327 rfl rfl ?_
  refine z_room (k' := 0 + K) (n' := 0 + N) (by omega) (by omega) ?_
  refine y_V (pc := 328) (as := [si (xs (i + 1)), si (xs (i + 2)), si (xs (i + 3))]) (st := []) (ci := 10) (N := mX11_add) (k := K) (n := N) (k1 := 0) (n1 := 0) dL_law_328 lkL_130 caX11_add cvX11_add rfl (by decide) rfl m1 (m2 (fun o9 h9 => o9 = .inl (some (si r.2.1)) ∧ h9 = M h2) ⟨rfl, rfl⟩) ⟨by decide, by decide⟩ (Nat.le_of_ble_eq_true rfl) (fun v h3 q => ?_) (fun E h3 q => nomatch q.1)
  obtain ⟨q1, rfl⟩ := q
  have q3 : v = some (si r.2.1) := Sum.inl.inj q1
  subst q3
  show gZ (LF b L xs) G (mLw nm hh) 60 Q 331 [some (sr (some b)), some (sr (some x)), some (sr (some m)), some (sr (some o)), some (si (nI i)), some (si r.1), none] [si r.2.1] K N (M h2)
  refine z_istore (pc := 331) (i := 6) [some (sr (some b)), some (sr (some x)), some (sr (some m)), some (sr (some o)), some (si (nI i)), some (si r.1), some (si r.2.1)] dL_law_331 (show 6 < 7 by decide) rfl rfl ?_
  refine z_aload_n (pc := 333) (i := 2) dL_law_333 rfl rfl ?_
  refine z_room (k' := 0 + K) (n' := 0 + N) (by omega) (by omega) ?_
  refine y_V (pc := 334) (as := []) (st := []) (ci := 10) (N := mX11_thrown) (k := K) (n := N) (k1 := 0) (n1 := 0) dL_law_334 lkL_123 caX11_thrown cvX11_thrown rfl (by decide) rfl m3 (m4 (fun o9 h9 => o9 = .inl (some (si r.1)) ∧ h9 = M h2) ⟨rfl, rfl⟩) ⟨by decide, by decide⟩ (Nat.le_of_ble_eq_true rfl) (fun v h3 q => ?_) (fun E h3 q => nomatch q.1)
  obtain ⟨q1, rfl⟩ := q
  have q3 : v = some (si r.1) := Sum.inl.inj q1
  subst q3
  show gZ (LF b L xs) G (mLw nm hh) 60 Q 337 [some (sr (some b)), some (sr (some x)), some (sr (some m)), some (sr (some o)), some (si (nI i)), some (si r.1), some (si r.2.1)] [si r.1] K N (M h2)
  refine z_iload (pc := 337) (i := 5) dL_law_337 rfl ?_
  refine z_icmp_eq (pc := 339) 344 dL_law_339 rfl (fun _ => ?_) (fun hc => absurd rfl hc)
  refine z_iload (pc := 344) (i := 5) dL_law_344 rfl ?_
  refine z_if_ne (pc := 346) 361 dL_law_346 rfl (fun hc => ?_) (fun hc => ?_)
  · refine z_goto (pc := 361) 2313 dL_law_361 rfl ?_
    exact z_less [some (sr (some b)), some (sr (some x)), some (sr (some m)), some (sr (some o)), some (si (nI i)), none, none] law_less (kk h2 q2)
  · refine z_aload_n (pc := 349) (i := 3) dL_law_349 rfl rfl ?_
    refine z_iconst (pc := 350) (v := 0) dL_law_350 rfl ?_
    refine z_lald (pc := 351) dL_law_351 (by rw [m5]) (by rw [m5]; exact in0) ?_
    have hv : hJ (M h2) o (0 : Int32).toNatClampNeg = i2l9 r.2.1 := (show hJ (M h2) o 0 = _ by rw [m6]; exact hA.out (by decide) hc q2)
    rw [hv]
    refine z_iload (pc := 352) (i := 6) dL_law_352 rfl ?_
    refine z_i2l (pc := 354) dL_law_354 ?_
    refine z_lcmp (pc := 355) dL_law_355 ?_
    refine z_if_eq (pc := 356) 361 dL_law_356 rfl (fun _ => ?_) (fun hc9 => absurd (lg_self _) hc9)
    refine z_goto (pc := 361) 2313 dL_law_361 rfl ?_
    exact z_less [some (sr (some b)), some (sr (some x)), some (sr (some m)), some (sr (some o)), some (si (nI i)), none, none] law_less (kk h2 q2)
theorem dL_law_364 : decode cL_law 364 = .ok (.aload_n 1, 1) := by decide +kernel
theorem dL_law_365 : decode cL_law 365 = .ok (.aload_n 0, 1) := by decide +kernel
theorem dL_law_366 : decode cL_law 366 = .ok (.iload 4, 2) := by decide +kernel
theorem dL_law_368 : decode cL_law 368 = .ok (.iconst 1, 1) := by decide +kernel
theorem dL_law_369 : decode cL_law 369 = .ok (.iadd, 1) := by decide +kernel
theorem dL_law_370 : decode cL_law 370 = .ok (.iaload, 1) := by decide +kernel
theorem dL_law_371 : decode cL_law 371 = .ok (.aload_n 3, 1) := by decide +kernel
theorem dL_law_372 : decode cL_law 372 = .ok (.invokestatic 131, 3) := by decide +kernel
theorem dL_law_375 : decode cL_law 375 = .ok (.istore 5, 2) := by decide +kernel
theorem dL_law_377 : decode cL_law 377 = .ok (.aload_n 2, 1) := by decide +kernel
theorem dL_law_378 : decode cL_law 378 = .ok (.aload_n 0, 1) := by decide +kernel
theorem dL_law_379 : decode cL_law 379 = .ok (.iload 4, 2) := by decide +kernel
theorem dL_law_381 : decode cL_law 381 = .ok (.iconst 1, 1) := by decide +kernel
theorem dL_law_382 : decode cL_law 382 = .ok (.iadd, 1) := by decide +kernel
theorem dL_law_383 : decode cL_law 383 = .ok (.iaload, 1) := by decide +kernel
theorem dL_law_384 : decode cL_law 384 = .ok (.invokevirtual 133, 3) := by decide +kernel
theorem dL_law_387 : decode cL_law 387 = .ok (.istore 6, 2) := by decide +kernel
theorem dL_law_389 : decode cL_law 389 = .ok (.aload_n 2, 1) := by decide +kernel
theorem dL_law_390 : decode cL_law 390 = .ok (.invokevirtual 123, 3) := by decide +kernel
theorem dL_law_393 : decode cL_law 393 = .ok (.iload 5, 2) := by decide +kernel
theorem dL_law_395 : decode cL_law 395 = .ok (.if_icmp .eq 5, 3) := by decide +kernel
theorem dL_law_400 : decode cL_law 400 = .ok (.iload 5, 2) := by decide +kernel
theorem dL_law_402 : decode cL_law 402 = .ok (.ifCond .ne 15, 3) := by decide +kernel
theorem dL_law_405 : decode cL_law 405 = .ok (.aload_n 3, 1) := by decide +kernel
theorem dL_law_406 : decode cL_law 406 = .ok (.iconst 0, 1) := by decide +kernel
theorem dL_law_407 : decode cL_law 407 = .ok (.laload, 1) := by decide +kernel
theorem dL_law_408 : decode cL_law 408 = .ok (.iload 6, 2) := by decide +kernel
theorem dL_law_410 : decode cL_law 410 = .ok (.i2l, 1) := by decide +kernel
theorem dL_law_411 : decode cL_law 411 = .ok (.lcmp, 1) := by decide +kernel
theorem dL_law_412 : decode cL_law 412 = .ok (.ifCond .eq 5, 3) := by decide +kernel
theorem dL_law_417 : decode cL_law 417 = .ok (.goto 1896, 3) := by decide +kernel
theorem lkL_131 : Cond.methodLink RL 131 yL_remove ∈ XW := xw 882 (by decide +kernel) rfl
theorem lkL_133 : Cond.methodLink RL 133 yX11_remove ∈ XW := xw 1718 (by decide +kernel) rfl
theorem kL_remove {nm : String} {hh : List (Nat × Nat × Nat × Nat)} {G : gG} {b L x m o i : Nat} {xs : Nat → Int32} {h h' : hp} {Q : hQ} {K N : Nat} {M : hp → hp} (a : Int32 ⊕ String) (r : aS) (hb : ¬ gb G ≤ b) (hL : L ≤ 2048) (hi : i + 4 ≤ L) (hx : (hT h x).1 = 10) (ho : hT h' o = (24, 1)) (hS : ∀ Q1 : hQ, Q1 (oA a) h' → gS G mX10_remove 54 3 18 [sr (some x), si (xs (i + 1))] h Q1) (hA : An [exI, exS] a r) (hM : ∀ h2, HH h' o i2l9 a h2 → MM G mX11_remove 6 [si (xs (i + 1))] m o r M h2) (kk : ∀ h2, HH h' o i2l9 a h2 → gZ (LF b L xs) G (mLw nm hh) 60 Q 2313 [some (sr (some b)), some (sr (some x)), some (sr (some m)), some (sr (some o)), some (si (nI i)), none, none] [] K N (M h2)) : gZ (LF b L xs) G (mLw nm hh) 60 Q 364 [some (sr (some b)), some (sr (some x)), some (sr (some m)), some (sr (some o)), some (si (nI i)), none, none] [] (3 + K) (18 + N) h := by
  refine z_aload_n (pc := 364) (i := 1) dL_law_364 rfl rfl ?_
  refine y_arg (pc := 365) (i := i) 1 hb hL hi (by decide) rfl dL_law_365 dL_law_366 dL_law_368 dL_law_369 dL_law_370 rfl rfl ?_
  refine z_aload_n (pc := 371) (i := 3) dL_law_371 rfl rfl ?_
  refine y_X (pc := 372) (as := [sr (some x), si (xs (i + 1)), sr (some o)]) (st := []) (N := mL_remove) (k := K) (n := N) (k1 := 3) (n1 := 18) (fun _ z => z.1) dL_law_372 lkL_131 caL_remove rfl (wL_remove a hx ho hS (hA.wr o i2l9 h')) ⟨by decide, by decide⟩ (Nat.le_of_ble_eq_true rfl) (fun v h2 q => ?_) (fun E h2 q => nomatch q.1)
  obtain ⟨q1, q2⟩ := q
  have q3 : v = some (si r.1) := Sum.inl.inj q1
  subst q3
  show gZ (LF b L xs) G (mLw nm hh) 60 Q 375 [some (sr (some b)), some (sr (some x)), some (sr (some m)), some (sr (some o)), some (si (nI i)), none, none] [si r.1] K N h2
  obtain ⟨m1, m2, m3, m4, m5, m6⟩ := hM h2 q2
  refine z_istore (pc := 375) (i := 5) [some (sr (some b)), some (sr (some x)), some (sr (some m)), some (sr (some o)), some (si (nI i)), some (si r.1), none] dL_law_375 (show 5 < 7 by decide) rfl rfl ?_
  refine z_aload_n (pc := 377) (i := 2) dL_law_377 rfl rfl ?_
  refine y_arg (pc := 378) (i := i) 1 hb hL hi (by decide) rfl dL_law_378 dL_law_379 dL_law_381 dL_law_382 dL_law_383 rfl rfl ?_
  refine z_room (k' := 0 + K) (n' := 0 + N) (by omega) (by omega) ?_
  refine y_V (pc := 384) (as := [si (xs (i + 1))]) (st := []) (ci := 10) (N := mX11_remove) (k := K) (n := N) (k1 := 0) (n1 := 0) dL_law_384 lkL_133 caX11_remove cvX11_remove rfl (by decide) rfl m1 (m2 (fun o9 h9 => o9 = .inl (some (si r.2.1)) ∧ h9 = M h2) ⟨rfl, rfl⟩) ⟨by decide, by decide⟩ (Nat.le_of_ble_eq_true rfl) (fun v h3 q => ?_) (fun E h3 q => nomatch q.1)
  obtain ⟨q1, rfl⟩ := q
  have q3 : v = some (si r.2.1) := Sum.inl.inj q1
  subst q3
  show gZ (LF b L xs) G (mLw nm hh) 60 Q 387 [some (sr (some b)), some (sr (some x)), some (sr (some m)), some (sr (some o)), some (si (nI i)), some (si r.1), none] [si r.2.1] K N (M h2)
  refine z_istore (pc := 387) (i := 6) [some (sr (some b)), some (sr (some x)), some (sr (some m)), some (sr (some o)), some (si (nI i)), some (si r.1), some (si r.2.1)] dL_law_387 (show 6 < 7 by decide) rfl rfl ?_
  refine z_aload_n (pc := 389) (i := 2) dL_law_389 rfl rfl ?_
  refine z_room (k' := 0 + K) (n' := 0 + N) (by omega) (by omega) ?_
  refine y_V (pc := 390) (as := []) (st := []) (ci := 10) (N := mX11_thrown) (k := K) (n := N) (k1 := 0) (n1 := 0) dL_law_390 lkL_123 caX11_thrown cvX11_thrown rfl (by decide) rfl m3 (m4 (fun o9 h9 => o9 = .inl (some (si r.1)) ∧ h9 = M h2) ⟨rfl, rfl⟩) ⟨by decide, by decide⟩ (Nat.le_of_ble_eq_true rfl) (fun v h3 q => ?_) (fun E h3 q => nomatch q.1)
  obtain ⟨q1, rfl⟩ := q
  have q3 : v = some (si r.1) := Sum.inl.inj q1
  subst q3
  show gZ (LF b L xs) G (mLw nm hh) 60 Q 393 [some (sr (some b)), some (sr (some x)), some (sr (some m)), some (sr (some o)), some (si (nI i)), some (si r.1), some (si r.2.1)] [si r.1] K N (M h2)
  refine z_iload (pc := 393) (i := 5) dL_law_393 rfl ?_
  refine z_icmp_eq (pc := 395) 400 dL_law_395 rfl (fun _ => ?_) (fun hc => absurd rfl hc)
  refine z_iload (pc := 400) (i := 5) dL_law_400 rfl ?_
  refine z_if_ne (pc := 402) 417 dL_law_402 rfl (fun hc => ?_) (fun hc => ?_)
  · refine z_goto (pc := 417) 2313 dL_law_417 rfl ?_
    exact z_less [some (sr (some b)), some (sr (some x)), some (sr (some m)), some (sr (some o)), some (si (nI i)), none, none] law_less (kk h2 q2)
  · refine z_aload_n (pc := 405) (i := 3) dL_law_405 rfl rfl ?_
    refine z_iconst (pc := 406) (v := 0) dL_law_406 rfl ?_
    refine z_lald (pc := 407) dL_law_407 (by rw [m5]) (by rw [m5]; exact in0) ?_
    have hv : hJ (M h2) o (0 : Int32).toNatClampNeg = i2l9 r.2.1 := (show hJ (M h2) o 0 = _ by rw [m6]; exact hA.out (by decide) hc q2)
    rw [hv]
    refine z_iload (pc := 408) (i := 6) dL_law_408 rfl ?_
    refine z_i2l (pc := 410) dL_law_410 ?_
    refine z_lcmp (pc := 411) dL_law_411 ?_
    refine z_if_eq (pc := 412) 417 dL_law_412 rfl (fun _ => ?_) (fun hc9 => absurd (lg_self _) hc9)
    refine z_goto (pc := 417) 2313 dL_law_417 rfl ?_
    exact z_less [some (sr (some b)), some (sr (some x)), some (sr (some m)), some (sr (some o)), some (si (nI i)), none, none] law_less (kk h2 q2)
theorem dL_law_420 : decode cL_law 420 = .ok (.aload_n 1, 1) := by decide +kernel
theorem dL_law_421 : decode cL_law 421 = .ok (.aload_n 0, 1) := by decide +kernel
theorem dL_law_422 : decode cL_law 422 = .ok (.iload 4, 2) := by decide +kernel
theorem dL_law_424 : decode cL_law 424 = .ok (.iconst 1, 1) := by decide +kernel
theorem dL_law_425 : decode cL_law 425 = .ok (.iadd, 1) := by decide +kernel
theorem dL_law_426 : decode cL_law 426 = .ok (.iaload, 1) := by decide +kernel
theorem dL_law_427 : decode cL_law 427 = .ok (.aload_n 0, 1) := by decide +kernel
theorem dL_law_428 : decode cL_law 428 = .ok (.iload 4, 2) := by decide +kernel
theorem dL_law_430 : decode cL_law 430 = .ok (.iconst 2, 1) := by decide +kernel
theorem dL_law_431 : decode cL_law 431 = .ok (.iadd, 1) := by decide +kernel
theorem dL_law_432 : decode cL_law 432 = .ok (.iaload, 1) := by decide +kernel
theorem dL_law_433 : decode cL_law 433 = .ok (.ifCond .eq 7, 3) := by decide +kernel
theorem dL_law_436 : decode cL_law 436 = .ok (.iconst 1, 1) := by decide +kernel
theorem dL_law_437 : decode cL_law 437 = .ok (.goto 4, 3) := by decide +kernel
theorem dL_law_440 : decode cL_law 440 = .ok (.iconst 0, 1) := by decide +kernel
theorem dL_law_441 : decode cL_law 441 = .ok (.aload_n 3, 1) := by decide +kernel
theorem dL_law_442 : decode cL_law 442 = .ok (.invokestatic 134, 3) := by decide +kernel
theorem dL_law_445 : decode cL_law 445 = .ok (.istore 5, 2) := by decide +kernel
theorem dL_law_447 : decode cL_law 447 = .ok (.aload_n 2, 1) := by decide +kernel
theorem dL_law_448 : decode cL_law 448 = .ok (.aload_n 0, 1) := by decide +kernel
theorem dL_law_449 : decode cL_law 449 = .ok (.iload 4, 2) := by decide +kernel
theorem dL_law_451 : decode cL_law 451 = .ok (.iconst 1, 1) := by decide +kernel
theorem dL_law_452 : decode cL_law 452 = .ok (.iadd, 1) := by decide +kernel
theorem dL_law_453 : decode cL_law 453 = .ok (.iaload, 1) := by decide +kernel
theorem dL_law_454 : decode cL_law 454 = .ok (.aload_n 0, 1) := by decide +kernel
theorem dL_law_455 : decode cL_law 455 = .ok (.iload 4, 2) := by decide +kernel
theorem dL_law_457 : decode cL_law 457 = .ok (.iconst 2, 1) := by decide +kernel
theorem dL_law_458 : decode cL_law 458 = .ok (.iadd, 1) := by decide +kernel
theorem dL_law_459 : decode cL_law 459 = .ok (.iaload, 1) := by decide +kernel
theorem dL_law_460 : decode cL_law 460 = .ok (.ifCond .eq 7, 3) := by decide +kernel
theorem dL_law_463 : decode cL_law 463 = .ok (.iconst 1, 1) := by decide +kernel
theorem dL_law_464 : decode cL_law 464 = .ok (.goto 4, 3) := by decide +kernel
theorem dL_law_467 : decode cL_law 467 = .ok (.iconst 0, 1) := by decide +kernel
theorem dL_law_468 : decode cL_law 468 = .ok (.invokevirtual 137, 3) := by decide +kernel
theorem dL_law_471 : decode cL_law 471 = .ok (.istore 6, 2) := by decide +kernel
theorem dL_law_473 : decode cL_law 473 = .ok (.aload_n 2, 1) := by decide +kernel
theorem dL_law_474 : decode cL_law 474 = .ok (.invokevirtual 123, 3) := by decide +kernel
theorem dL_law_477 : decode cL_law 477 = .ok (.iload 5, 2) := by decide +kernel
theorem dL_law_479 : decode cL_law 479 = .ok (.if_icmp .eq 5, 3) := by decide +kernel
theorem dL_law_484 : decode cL_law 484 = .ok (.iload 5, 2) := by decide +kernel
theorem dL_law_486 : decode cL_law 486 = .ok (.ifCond .ne 22, 3) := by decide +kernel
theorem dL_law_489 : decode cL_law 489 = .ok (.aload_n 3, 1) := by decide +kernel
theorem dL_law_490 : decode cL_law 490 = .ok (.iconst 0, 1) := by decide +kernel
theorem dL_law_491 : decode cL_law 491 = .ok (.laload, 1) := by decide +kernel
theorem dL_law_492 : decode cL_law 492 = .ok (.iload 6, 2) := by decide +kernel
theorem dL_law_494 : decode cL_law 494 = .ok (.ifCond .eq 7, 3) := by decide +kernel
theorem dL_law_497 : decode cL_law 497 = .ok (.lconst 1, 1) := by decide +kernel
theorem dL_law_498 : decode cL_law 498 = .ok (.goto 4, 3) := by decide +kernel
theorem dL_law_501 : decode cL_law 501 = .ok (.lconst 0, 1) := by decide +kernel
theorem dL_law_502 : decode cL_law 502 = .ok (.lcmp, 1) := by decide +kernel
theorem dL_law_503 : decode cL_law 503 = .ok (.ifCond .eq 5, 3) := by decide +kernel
theorem dL_law_508 : decode cL_law 508 = .ok (.goto 1805, 3) := by decide +kernel
theorem lkL_134 : Cond.methodLink RL 134 yL_hide ∈ XW := xw 943 (by decide +kernel) rfl
theorem lkL_137 : Cond.methodLink RL 137 yX11_hide ∈ XW := xw 1742 (by decide +kernel) rfl
theorem kL_hide {nm : String} {hh : List (Nat × Nat × Nat × Nat)} {G : gG} {b L x m o i : Nat} {xs : Nat → Int32} {h h' : hp} {Q : hQ} {K N : Nat} {M : hp → hp} (a : Int32 ⊕ String) (r : aS) (hb : ¬ gb G ≤ b) (hL : L ≤ 2048) (hi : i + 4 ≤ L) (hx : (hT h x).1 = 10) (ho : hT h' o = (24, 1)) (hS : ∀ Q1 : hQ, Q1 (oA a) h' → gS G mX10_hide 53 3 18 [sr (some x), si (xs (i + 1)), si (zb (xs (i + 2)))] h Q1) (hA : An [exI, exS] a r) (hM : ∀ h2, HH h' o b2l a h2 → MM G mX11_hide 6 [si (xs (i + 1)), si (zb (xs (i + 2)))] m o r M h2) (kk : ∀ h2, HH h' o b2l a h2 → gZ (LF b L xs) G (mLw nm hh) 60 Q 2313 [some (sr (some b)), some (sr (some x)), some (sr (some m)), some (sr (some o)), some (si (nI i)), none, none] [] K N (M h2)) : gZ (LF b L xs) G (mLw nm hh) 60 Q 420 [some (sr (some b)), some (sr (some x)), some (sr (some m)), some (sr (some o)), some (si (nI i)), none, none] [] (3 + K) (18 + N) h := by
  refine z_aload_n (pc := 420) (i := 1) dL_law_420 rfl rfl ?_
  refine y_arg (pc := 421) (i := i) 1 hb hL hi (by decide) rfl dL_law_421 dL_law_422 dL_law_424 dL_law_425 dL_law_426 rfl rfl ?_
  refine y_arg (pc := 427) (i := i) 2 hb hL hi (by decide) rfl dL_law_427 dL_law_428 dL_law_430 dL_law_431 dL_law_432 rfl rfl ?_
  refine y_nz (pc := 433) 440 441 dL_law_433 dL_law_436 dL_law_437 dL_law_440 rfl rfl rfl ?_
  refine z_aload_n (pc := 441) (i := 3) dL_law_441 rfl rfl ?_
  refine y_X (pc := 442) (as := [sr (some x), si (xs (i + 1)), si (zb (xs (i + 2))), sr (some o)]) (st := []) (N := mL_hide) (k := K) (n := N) (k1 := 3) (n1 := 18) (fun _ z => z.1) dL_law_442 lkL_134 caL_hide rfl (wL_hide a hx ho hS (hA.wr o b2l h')) ⟨by decide, by decide⟩ (Nat.le_of_ble_eq_true rfl) (fun v h2 q => ?_) (fun E h2 q => nomatch q.1)
  obtain ⟨q1, q2⟩ := q
  have q3 : v = some (si r.1) := Sum.inl.inj q1
  subst q3
  show gZ (LF b L xs) G (mLw nm hh) 60 Q 445 [some (sr (some b)), some (sr (some x)), some (sr (some m)), some (sr (some o)), some (si (nI i)), none, none] [si r.1] K N h2
  obtain ⟨m1, m2, m3, m4, m5, m6⟩ := hM h2 q2
  refine z_istore (pc := 445) (i := 5) [some (sr (some b)), some (sr (some x)), some (sr (some m)), some (sr (some o)), some (si (nI i)), some (si r.1), none] dL_law_445 (show 5 < 7 by decide) rfl rfl ?_
  refine z_aload_n (pc := 447) (i := 2) dL_law_447 rfl rfl ?_
  refine y_arg (pc := 448) (i := i) 1 hb hL hi (by decide) rfl dL_law_448 dL_law_449 dL_law_451 dL_law_452 dL_law_453 rfl rfl ?_
  refine y_arg (pc := 454) (i := i) 2 hb hL hi (by decide) rfl dL_law_454 dL_law_455 dL_law_457 dL_law_458 dL_law_459 rfl rfl ?_
  refine y_nz (pc := 460) 467 468 dL_law_460 dL_law_463 dL_law_464 dL_law_467 rfl rfl rfl ?_
  refine z_room (k' := 0 + K) (n' := 0 + N) (by omega) (by omega) ?_
  refine y_V (pc := 468) (as := [si (xs (i + 1)), si (zb (xs (i + 2)))]) (st := []) (ci := 10) (N := mX11_hide) (k := K) (n := N) (k1 := 0) (n1 := 0) dL_law_468 lkL_137 caX11_hide cvX11_hide rfl (by decide) rfl m1 (m2 (fun o9 h9 => o9 = .inl (some (si r.2.1)) ∧ h9 = M h2) ⟨rfl, rfl⟩) ⟨by decide, by decide⟩ (Nat.le_of_ble_eq_true rfl) (fun v h3 q => ?_) (fun E h3 q => nomatch q.1)
  obtain ⟨q1, rfl⟩ := q
  have q3 : v = some (si r.2.1) := Sum.inl.inj q1
  subst q3
  show gZ (LF b L xs) G (mLw nm hh) 60 Q 471 [some (sr (some b)), some (sr (some x)), some (sr (some m)), some (sr (some o)), some (si (nI i)), some (si r.1), none] [si r.2.1] K N (M h2)
  refine z_istore (pc := 471) (i := 6) [some (sr (some b)), some (sr (some x)), some (sr (some m)), some (sr (some o)), some (si (nI i)), some (si r.1), some (si r.2.1)] dL_law_471 (show 6 < 7 by decide) rfl rfl ?_
  refine z_aload_n (pc := 473) (i := 2) dL_law_473 rfl rfl ?_
  refine z_room (k' := 0 + K) (n' := 0 + N) (by omega) (by omega) ?_
  refine y_V (pc := 474) (as := []) (st := []) (ci := 10) (N := mX11_thrown) (k := K) (n := N) (k1 := 0) (n1 := 0) dL_law_474 lkL_123 caX11_thrown cvX11_thrown rfl (by decide) rfl m3 (m4 (fun o9 h9 => o9 = .inl (some (si r.1)) ∧ h9 = M h2) ⟨rfl, rfl⟩) ⟨by decide, by decide⟩ (Nat.le_of_ble_eq_true rfl) (fun v h3 q => ?_) (fun E h3 q => nomatch q.1)
  obtain ⟨q1, rfl⟩ := q
  have q3 : v = some (si r.1) := Sum.inl.inj q1
  subst q3
  show gZ (LF b L xs) G (mLw nm hh) 60 Q 477 [some (sr (some b)), some (sr (some x)), some (sr (some m)), some (sr (some o)), some (si (nI i)), some (si r.1), some (si r.2.1)] [si r.1] K N (M h2)
  refine z_iload (pc := 477) (i := 5) dL_law_477 rfl ?_
  refine z_icmp_eq (pc := 479) 484 dL_law_479 rfl (fun _ => ?_) (fun hc => absurd rfl hc)
  refine z_iload (pc := 484) (i := 5) dL_law_484 rfl ?_
  refine z_if_ne (pc := 486) 508 dL_law_486 rfl (fun hc => ?_) (fun hc => ?_)
  · refine z_goto (pc := 508) 2313 dL_law_508 rfl ?_
    exact z_less [some (sr (some b)), some (sr (some x)), some (sr (some m)), some (sr (some o)), some (si (nI i)), none, none] law_less (kk h2 q2)
  · refine z_aload_n (pc := 489) (i := 3) dL_law_489 rfl rfl ?_
    refine z_iconst (pc := 490) (v := 0) dL_law_490 rfl ?_
    refine z_lald (pc := 491) dL_law_491 (by rw [m5]) (by rw [m5]; exact in0) ?_
    have hv : hJ (M h2) o (0 : Int32).toNatClampNeg = b2l r.2.1 := (show hJ (M h2) o 0 = _ by rw [m6]; exact hA.out (by decide) hc q2)
    rw [hv]
    refine z_iload (pc := 492) (i := 6) dL_law_492 rfl ?_
    refine y_nzl (pc := 494) 501 502 dL_law_494 dL_law_497 dL_law_498 dL_law_501 rfl rfl rfl ?_
    refine z_lcmp (pc := 502) dL_law_502 ?_
    refine z_if_eq (pc := 503) 508 dL_law_503 rfl (fun _ => ?_) (fun hc9 => absurd (lg_self _) hc9)
    refine z_goto (pc := 508) 2313 dL_law_508 rfl ?_
    exact z_less [some (sr (some b)), some (sr (some x)), some (sr (some m)), some (sr (some o)), some (si (nI i)), none, none] law_less (kk h2 q2)
