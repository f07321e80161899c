/-! ===== cases of the law ===== -/
theorem dL_law_1410 : decode cL_law 1410 = .ok (.aload_n 1, 1) := by decide +kernel
theorem dL_law_1411 : decode cL_law 1411 = .ok (.aload_n 0, 1) := by decide +kernel
theorem dL_law_1412 : decode cL_law 1412 = .ok (.iload 4, 2) := by decide +kernel
theorem dL_law_1414 : decode cL_law 1414 = .ok (.iconst 1, 1) := by decide +kernel
theorem dL_law_1415 : decode cL_law 1415 = .ok (.iadd, 1) := by decide +kernel
theorem dL_law_1416 : decode cL_law 1416 = .ok (.iaload, 1) := by decide +kernel
theorem dL_law_1417 : decode cL_law 1417 = .ok (.aload_n 3, 1) := by decide +kernel
theorem dL_law_1418 : decode cL_law 1418 = .ok (.invokestatic 185, 3) := by decide +kernel
theorem dL_law_1421 : decode cL_law 1421 = .ok (.istore 5, 2) := by decide +kernel
theorem dL_law_1423 : decode cL_law 1423 = .ok (.aload_n 2, 1) := by decide +kernel
theorem dL_law_1424 : decode cL_law 1424 = .ok (.aload_n 0, 1) := by decide +kernel
theorem dL_law_1425 : decode cL_law 1425 = .ok (.iload 4, 2) := by decide +kernel
theorem dL_law_1427 : decode cL_law 1427 = .ok (.iconst 1, 1) := by decide +kernel
theorem dL_law_1428 : decode cL_law 1428 = .ok (.iadd, 1) := by decide +kernel
theorem dL_law_1429 : decode cL_law 1429 = .ok (.iaload, 1) := by decide +kernel
theorem dL_law_1430 : decode cL_law 1430 = .ok (.invokevirtual 187, 3) := by decide +kernel
theorem dL_law_1433 : decode cL_law 1433 = .ok (.istore 6, 2) := by decide +kernel
theorem dL_law_1435 : decode cL_law 1435 = .ok (.aload_n 2, 1) := by decide +kernel
theorem dL_law_1436 : decode cL_law 1436 = .ok (.invokevirtual 123, 3) := by decide +kernel
theorem dL_law_1439 : decode cL_law 1439 = .ok (.iload 5, 2) := by decide +kernel
theorem dL_law_1441 : decode cL_law 1441 = .ok (.if_icmp .eq 5, 3) := by decide +kernel
theorem dL_law_1446 : decode cL_law 1446 = .ok (.iload 5, 2) := by decide +kernel
theorem dL_law_1448 : decode cL_law 1448 = .ok (.ifCond .ne 22, 3) := by decide +kernel
theorem dL_law_1451 : decode cL_law 1451 = .ok (.aload_n 3, 1) := by decide +kernel
theorem dL_law_1452 : decode cL_law 1452 = .ok (.iconst 0, 1) := by decide +kernel
theorem dL_law_1453 : decode cL_law 1453 = .ok (.laload, 1) := by decide +kernel
theorem dL_law_1454 : decode cL_law 1454 = .ok (.iload 6, 2) := by decide +kernel
theorem dL_law_1456 : decode cL_law 1456 = .ok (.ifCond .eq 7, 3) := by decide +kernel
theorem dL_law_1459 : decode cL_law 1459 = .ok (.lconst 1, 1) := by decide +kernel
theorem dL_law_1460 : decode cL_law 1460 = .ok (.goto 4, 3) := by decide +kernel
theorem dL_law_1463 : decode cL_law 1463 = .ok (.lconst 0, 1) := by decide +kernel
theorem dL_law_1464 : decode cL_law 1464 = .ok (.lcmp, 1) := by decide +kernel
theorem dL_law_1465 : decode cL_law 1465 = .ok (.ifCond .eq 5, 3) := by decide +kernel
theorem dL_law_1470 : decode cL_law 1470 = .ok (.goto 843, 3) := by decide +kernel
theorem lkL_185 : Cond.methodLink RL 185 yL_isShown ∈ XW := xw 1070 (by decide +kernel) rfl
theorem lkL_187 : Cond.methodLink RL 187 yX11_isShown ∈ XW := xw 1810 (by decide +kernel) rfl
theorem kL_isShown {nm : String} {hh : List (Nat × Nat × Nat × Nat)} {G : gG} {b L x m o i : Nat} {xs : Nat → Int32} {h h' : hp} {Q : hQ} {K N : Nat} {M : hp → hp} (a : Int32 ⊕ String) (r : aS) (hb : ¬ gb G ≤ b) (hL : L ≤ 2048) (hi : i + 4 ≤ L) (hx : (hT h x).1 = 10) (ho : hT h' o = (24, 1)) (hS : ∀ Q1 : hQ, Q1 (oA a) h' → gS G mX10_isShown 7 1 6 [sr (some x), si (xs (i + 1))] h Q1) (hA : An [exI] a r) (hM : ∀ h2, HH h' o b2l a h2 → MM G mX11_isShown 3 [si (xs (i + 1))] m o r M h2) (kk : ∀ h2, HH h' o b2l a h2 → gZ (LF b L xs) G (mLw nm hh) 60 Q 2313 [some (sr (some b)), some (sr (some x)), some (sr (some m)), some (sr (some o)), some (si (nI i)), none, none] [] K N (M h2)) : gZ (LF b L xs) G (mLw nm hh) 60 Q 1410 [some (sr (some b)), some (sr (some x)), some (sr (some m)), some (sr (some o)), some (si (nI i)), none, none] [] (1 + K) (6 + N) h := by
  refine z_aload_n (pc := 1410) (i := 1) dL_law_1410 rfl rfl ?_
  refine y_arg (pc := 1411) (i := i) 1 hb hL hi (by decide) rfl dL_law_1411 dL_law_1412 dL_law_1414 dL_law_1415 dL_law_1416 rfl rfl ?_
  refine z_aload_n (pc := 1417) (i := 3) dL_law_1417 rfl rfl ?_
  refine y_X (pc := 1418) (as := [sr (some x), si (xs (i + 1)), sr (some o)]) (st := []) (N := mL_isShown) (k := K) (n := N) (k1 := 1) (n1 := 6) (fun _ z => z.1) dL_law_1418 lkL_185 caL_isShown rfl (wL_isShown a hx ho hS (hA.wr o b2l h')) ⟨by decide, by decide⟩ (Nat.le_of_ble_eq_true rfl) (fun v h2 q => ?_) (fun E h2 q => nomatch q.1)
  obtain ⟨q1, q2⟩ := q
  have q3 : v = some (si r.1) := Sum.inl.inj q1
  subst q3
  show gZ (LF b L xs) G (mLw nm hh) 60 Q 1421 [some (sr (some b)), some (sr (some x)), some (sr (some m)), some (sr (some o)), some (si (nI i)), none, none] [si r.1] K N h2
  obtain ⟨m1, m2, m3, m4, m5, m6⟩ := hM h2 q2
  refine z_istore (pc := 1421) (i := 5) [some (sr (some b)), some (sr (some x)), some (sr (some m)), some (sr (some o)), some (si (nI i)), some (si r.1), none] dL_law_1421 (show 5 < 7 by decide) rfl rfl ?_
  refine z_aload_n (pc := 1423) (i := 2) dL_law_1423 rfl rfl ?_
  refine y_arg (pc := 1424) (i := i) 1 hb hL hi (by decide) rfl dL_law_1424 dL_law_1425 dL_law_1427 dL_law_1428 dL_law_1429 rfl rfl ?_
  refine z_room (k' := 0 + K) (n' := 0 + N) (by omega) (by omega) ?_
  refine y_V (pc := 1430) (as := [si (xs (i + 1))]) (st := []) (ci := 10) (N := mX11_isShown) (k := K) (n := N) (k1 := 0) (n1 := 0) dL_law_1430 lkL_187 caX11_isShown cvX11_isShown rfl (by decide) rfl m1 (m2 (fun o9 h9 => o9 = .inl (some (si r.2.1)) ∧ h9 = M h2) ⟨rfl, rfl⟩) ⟨by decide, by decide⟩ (Nat.le_of_ble_eq_true rfl) (fun v h3 q => ?_) (fun E h3 q => nomatch q.1)
  obtain ⟨q1, rfl⟩ := q
  have q3 : v = some (si r.2.1) := Sum.inl.inj q1
  subst q3
  show gZ (LF b L xs) G (mLw nm hh) 60 Q 1433 [some (sr (some b)), some (sr (some x)), some (sr (some m)), some (sr (some o)), some (si (nI i)), some (si r.1), none] [si r.2.1] K N (M h2)
  refine z_istore (pc := 1433) (i := 6) [some (sr (some b)), some (sr (some x)), some (sr (some m)), some (sr (some o)), some (si (nI i)), some (si r.1), some (si r.2.1)] dL_law_1433 (show 6 < 7 by decide) rfl rfl ?_
  refine z_aload_n (pc := 1435) (i := 2) dL_law_1435 rfl rfl ?_
  refine z_room (k' := 0 + K) (n' := 0 + N) (by omega) (by omega) ?_
  refine y_V (pc := 1436) (as := []) (st := []) (ci := 10) (N := mX11_thrown) (k := K) (n := N) (k1 := 0) (n1 := 0) dL_law_1436 lkL_123 caX11_thrown cvX11_thrown rfl (by decide) rfl m3 (m4 (fun o9 h9 => o9 = .inl (some (si r.1)) ∧ h9 = M h2) ⟨rfl, rfl⟩) ⟨by decide, by decide⟩ (Nat.le_of_ble_eq_true rfl) (fun v h3 q => ?_) (fun E h3 q => nomatch q.1)
  obtain ⟨q1, rfl⟩ := q
  have q3 : v = some (si r.1) := Sum.inl.inj q1
  subst q3
  show gZ (LF b L xs) G (mLw nm hh) 60 Q 1439 [some (sr (some b)), some (sr (some x)), some (sr (some m)), some (sr (some o)), some (si (nI i)), some (si r.1), some (si r.2.1)] [si r.1] K N (M h2)
  refine z_iload (pc := 1439) (i := 5) dL_law_1439 rfl ?_
  refine z_icmp_eq (pc := 1441) 1446 dL_law_1441 rfl (fun _ => ?_) (fun hc => absurd rfl hc)
  refine z_iload (pc := 1446) (i := 5) dL_law_1446 rfl ?_
  refine z_if_ne (pc := 1448) 1470 dL_law_1448 rfl (fun hc => ?_) (fun hc => ?_)
  · refine z_goto (pc := 1470) 2313 dL_law_1470 rfl ?_
    exact z_less [some (sr (some b)), some (sr (some x)), some (sr (some m)), some (sr (some o)), some (si (nI i)), none, none] law_less (kk h2 q2)
  · refine z_aload_n (pc := 1451) (i := 3) dL_law_1451 rfl rfl ?_
    refine z_iconst (pc := 1452) (v := 0) dL_law_1452 rfl ?_
    refine z_lald (pc := 1453) dL_law_1453 (by rw [m5]) (by rw [m5]; exact in0) ?_
    have hv : hJ (M h2) o (0 : Int32).toNatClampNeg = b2l r.2.1 := (show hJ (M h2) o 0 = _ by rw [m6]; exact hA.out (by decide) hc q2)
    rw [hv]
    refine z_iload (pc := 1454) (i := 6) dL_law_1454 rfl ?_
    refine y_nzl (pc := 1456) 1463 1464 dL_law_1456 dL_law_1459 dL_law_1460 dL_law_1463 rfl rfl rfl ?_
    refine z_lcmp (pc := 1464) dL_law_1464 ?_
    refine z_if_eq (pc := 1465) 1470 dL_law_1465 rfl (fun _ => ?_) (fun hc9 => absurd (lg_self _) hc9)
    refine z_goto (pc := 1470) 2313 dL_law_1470 rfl ?_
    exact z_less [some (sr (some b)), some (sr (some x)), some (sr (some m)), some (sr (some o)), some (si (nI i)), none, none] law_less (kk h2 q2)
theorem dL_law_1473 : decode cL_law 1473 = .ok (.aload_n 1, 1) := by decide +kernel
theorem dL_law_1474 : decode cL_law 1474 = .ok (.aload_n 0, 1) := by decide +kernel
theorem dL_law_1475 : decode cL_law 1475 = .ok (.iload 4, 2) := by decide +kernel
theorem dL_law_1477 : decode cL_law 1477 = .ok (.iconst 1, 1) := by decide +kernel
theorem dL_law_1478 : decode cL_law 1478 = .ok (.iadd, 1) := by decide +kernel
theorem dL_law_1479 : decode cL_law 1479 = .ok (.iaload, 1) := by decide +kernel
theorem dL_law_1480 : decode cL_law 1480 = .ok (.aload_n 3, 1) := by decide +kernel
theorem dL_law_1481 : decode cL_law 1481 = .ok (.invokestatic 188, 3) := by decide +kernel
theorem dL_law_1484 : decode cL_law 1484 = .ok (.istore 5, 2) := by decide +kernel
theorem dL_law_1486 : decode cL_law 1486 = .ok (.aload_n 2, 1) := by decide +kernel
theorem dL_law_1487 : decode cL_law 1487 = .ok (.aload_n 0, 1) := by decide +kernel
theorem dL_law_1488 : decode cL_law 1488 = .ok (.iload 4, 2) := by decide +kernel
theorem dL_law_1490 : decode cL_law 1490 = .ok (.iconst 1, 1) := by decide +kernel
theorem dL_law_1491 : decode cL_law 1491 = .ok (.iadd, 1) := by decide +kernel
theorem dL_law_1492 : decode cL_law 1492 = .ok (.iaload, 1) := by decide +kernel
theorem dL_law_1493 : decode cL_law 1493 = .ok (.invokevirtual 190, 3) := by decide +kernel
theorem dL_law_1496 : decode cL_law 1496 = .ok (.istore 6, 2) := by decide +kernel
theorem dL_law_1498 : decode cL_law 1498 = .ok (.aload_n 2, 1) := by decide +kernel
theorem dL_law_1499 : decode cL_law 1499 = .ok (.invokevirtual 123, 3) := by decide +kernel
theorem dL_law_1502 : decode cL_law 1502 = .ok (.iload 5, 2) := by decide +kernel
theorem dL_law_1504 : decode cL_law 1504 = .ok (.if_icmp .eq 5, 3) := by decide +kernel
theorem dL_law_1509 : decode cL_law 1509 = .ok (.iload 5, 2) := by decide +kernel
theorem dL_law_1511 : decode cL_law 1511 = .ok (.ifCond .ne 15, 3) := by decide +kernel
theorem dL_law_1514 : decode cL_law 1514 = .ok (.aload_n 3, 1) := by decide +kernel
theorem dL_law_1515 : decode cL_law 1515 = .ok (.iconst 0, 1) := by decide +kernel
theorem dL_law_1516 : decode cL_law 1516 = .ok (.laload, 1) := by decide +kernel
theorem dL_law_1517 : decode cL_law 1517 = .ok (.iload 6, 2) := by decide +kernel
theorem dL_law_1519 : decode cL_law 1519 = .ok (.i2l, 1) := by decide +kernel
theorem dL_law_1520 : decode cL_law 1520 = .ok (.lcmp, 1) := by decide +kernel
theorem dL_law_1521 : decode cL_law 1521 = .ok (.ifCond .eq 5, 3) := by decide +kernel
theorem dL_law_1526 : decode cL_law 1526 = .ok (.goto 787, 3) := by decide +kernel
theorem lkL_188 : Cond.methodLink RL 188 yL_level ∈ XW := xw 1077 (by decide +kernel) rfl
theorem lkL_190 : Cond.methodLink RL 190 yX11_level ∈ XW := xw 1814 (by decide +kernel) rfl
theorem kL_level {nm : String} {hh : List (Nat × Nat × Nat × Nat)} {G : gG} {b L x m o i : Nat} {xs : Nat → Int32} {h h' : hp} {Q : hQ} {K N : Nat} {M : hp → hp} (a : Int32 ⊕ String) (r : aS) (hb : ¬ gb G ≤ b) (hL : L ≤ 2048) (hi : i + 4 ≤ L) (hx : (hT h x).1 = 10) (ho : hT h' o = (24, 1)) (hS : ∀ Q1 : hQ, Q1 (oA a) h' → gS G mX10_level 7 1 6 [sr (some x), si (xs (i + 1))] h Q1) (hA : An [exI] a r) (hM : ∀ h2, HH h' o i2l9 a h2 → MM G mX11_level 3 [si (xs (i + 1))] m o r M h2) (kk : ∀ h2, HH h' o i2l9 a h2 → gZ (LF b L xs) G (mLw nm hh) 60 Q 2313 [some (sr (some b)), some (sr (some x)), some (sr (some m)), some (sr (some o)), some (si (nI i)), none, none] [] K N (M h2)) : gZ (LF b L xs) G (mLw nm hh) 60 Q 1473 [some (sr (some b)), some (sr (some x)), some (sr (some m)), some (sr (some o)), some (si (nI i)), none, none] [] (1 + K) (6 + N) h := by
  refine z_aload_n (pc := 1473) (i := 1) dL_law_1473 rfl rfl ?_
  refine y_arg (pc := 1474) (i := i) 1 hb hL hi (by decide) rfl dL_law_1474 dL_law_1475 dL_law_1477 dL_law_1478 dL_law_1479 rfl rfl ?_
  refine z_aload_n (pc := 1480) (i := 3) dL_law_1480 rfl rfl ?_
  refine y_X (pc := 1481) (as := [sr (some x), si (xs (i + 1)), sr (some o)]) (st := []) (N := mL_level) (k := K) (n := N) (k1 := 1) (n1 := 6) (fun _ z => z.1) dL_law_1481 lkL_188 caL_level rfl (wL_level a hx ho hS (hA.wr o i2l9 h')) ⟨by decide, by decide⟩ (Nat.le_of_ble_eq_true rfl) (fun v h2 q => ?_) (fun E h2 q => nomatch q.1)
  obtain ⟨q1, q2⟩ := q
  have q3 : v = some (si r.1) := Sum.inl.inj q1
  subst q3
  show gZ (LF b L xs) G (mLw nm hh) 60 Q 1484 [some (sr (some b)), some (sr (some x)), some (sr (some m)), some (sr (some o)), some (si (nI i)), none, none] [si r.1] K N h2
  obtain ⟨m1, m2, m3, m4, m5, m6⟩ := hM h2 q2
  refine z_istore (pc := 1484) (i := 5) [some (sr (some b)), some (sr (some x)), some (sr (some m)), some (sr (some o)), some (si (nI i)), some (si r.1), none] dL_law_1484 (show 5 < 7 by decide) rfl rfl ?_
  refine z_aload_n (pc := 1486) (i := 2) dL_law_1486 rfl rfl ?_
  refine y_arg (pc := 1487) (i := i) 1 hb hL hi (by decide) rfl dL_law_1487 dL_law_1488 dL_law_1490 dL_law_1491 dL_law_1492 rfl rfl ?_
  refine z_room (k' := 0 + K) (n' := 0 + N) (by omega) (by omega) ?_
  refine y_V (pc := 1493) (as := [si (xs (i + 1))]) (st := []) (ci := 10) (N := mX11_level) (k := K) (n := N) (k1 := 0) (n1 := 0) dL_law_1493 lkL_190 caX11_level cvX11_level rfl (by decide) rfl m1 (m2 (fun o9 h9 => o9 = .inl (some (si r.2.1)) ∧ h9 = M h2) ⟨rfl, rfl⟩) ⟨by decide, by decide⟩ (Nat.le_of_ble_eq_true rfl) (fun v h3 q => ?_) (fun E h3 q => nomatch q.1)
  obtain ⟨q1, rfl⟩ := q
  have q3 : v = some (si r.2.1) := Sum.inl.inj q1
  subst q3
  show gZ (LF b L xs) G (mLw nm hh) 60 Q 1496 [some (sr (some b)), some (sr (some x)), some (sr (some m)), some (sr (some o)), some (si (nI i)), some (si r.1), none] [si r.2.1] K N (M h2)
  refine z_istore (pc := 1496) (i := 6) [some (sr (some b)), some (sr (some x)), some (sr (some m)), some (sr (some o)), some (si (nI i)), some (si r.1), some (si r.2.1)] dL_law_1496 (show 6 < 7 by decide) rfl rfl ?_
  refine z_aload_n (pc := 1498) (i := 2) dL_law_1498 rfl rfl ?_
  refine z_room (k' := 0 + K) (n' := 0 + N) (by omega) (by omega) ?_
  refine y_V (pc := 1499) (as := []) (st := []) (ci := 10) (N := mX11_thrown) (k := K) (n := N) (k1 := 0) (n1 := 0) dL_law_1499 lkL_123 caX11_thrown cvX11_thrown rfl (by decide) rfl m3 (m4 (fun o9 h9 => o9 = .inl (some (si r.1)) ∧ h9 = M h2) ⟨rfl, rfl⟩) ⟨by decide, by decide⟩ (Nat.le_of_ble_eq_true rfl) (fun v h3 q => ?_) (fun E h3 q => nomatch q.1)
  obtain ⟨q1, rfl⟩ := q
  have q3 : v = some (si r.1) := Sum.inl.inj q1
  subst q3
  show gZ (LF b L xs) G (mLw nm hh) 60 Q 1502 [some (sr (some b)), some (sr (some x)), some (sr (some m)), some (sr (some o)), some (si (nI i)), some (si r.1), some (si r.2.1)] [si r.1] K N (M h2)
  refine z_iload (pc := 1502) (i := 5) dL_law_1502 rfl ?_
  refine z_icmp_eq (pc := 1504) 1509 dL_law_1504 rfl (fun _ => ?_) (fun hc => absurd rfl hc)
  refine z_iload (pc := 1509) (i := 5) dL_law_1509 rfl ?_
  refine z_if_ne (pc := 1511) 1526 dL_law_1511 rfl (fun hc => ?_) (fun hc => ?_)
  · refine z_goto (pc := 1526) 2313 dL_law_1526 rfl ?_
    exact z_less [some (sr (some b)), some (sr (some x)), some (sr (some m)), some (sr (some o)), some (si (nI i)), none, none] law_less (kk h2 q2)
  · refine z_aload_n (pc := 1514) (i := 3) dL_law_1514 rfl rfl ?_
    refine z_iconst (pc := 1515) (v := 0) dL_law_1515 rfl ?_
    refine z_lald (pc := 1516) dL_law_1516 (by rw [m5]) (by rw [m5]; exact in0) ?_
    have hv : hJ (M h2) o (0 : Int32).toNatClampNeg = i2l9 r.2.1 := (show hJ (M h2) o 0 = _ by rw [m6]; exact hA.out (by decide) hc q2)
    rw [hv]
    refine z_iload (pc := 1517) (i := 6) dL_law_1517 rfl ?_
    refine z_i2l (pc := 1519) dL_law_1519 ?_
    refine z_lcmp (pc := 1520) dL_law_1520 ?_
    refine z_if_eq (pc := 1521) 1526 dL_law_1521 rfl (fun _ => ?_) (fun hc9 => absurd (lg_self _) hc9)
    refine z_goto (pc := 1526) 2313 dL_law_1526 rfl ?_
    exact z_less [some (sr (some b)), some (sr (some x)), some (sr (some m)), some (sr (some o)), some (si (nI i)), none, none] law_less (kk h2 q2)
theorem dL_law_1529 : decode cL_law 1529 = .ok (.aload_n 1, 1) := by decide +kernel
theorem dL_law_1530 : decode cL_law 1530 = .ok (.invokevirtual 191, 3) := by decide +kernel
theorem dL_law_1533 : decode cL_law 1533 = .ok (.aload_n 2, 1) := by decide +kernel
theorem dL_law_1534 : decode cL_law 1534 = .ok (.invokevirtual 194, 3) := by decide +kernel
theorem dL_law_1537 : decode cL_law 1537 = .ok (.if_icmp .eq 776, 3) := by decide +kernel
theorem lkL_191 : Cond.methodLink RL 191 yX10_reading ∈ XW := xw 542 (by decide +kernel) rfl
theorem lkL_194 : Cond.methodLink RL 194 yX11_reading ∈ XW := xw 1818 (by decide +kernel) rfl
theorem kL_reading {nm : String} {hh : List (Nat × Nat × Nat × Nat)} {G : gG} {b L x m o i : Nat} {xs : Nat → Int32} {h h2 : hp} {Q : hQ} {K N : Nat} (v : Int32) (hx : (hT h x).1 = 10) (hS : ∀ Q1 : hQ, Q1 (.inl (some (si v))) h → gS G mX10_reading 0 0 0 [sr (some x)] h Q1) (hm : (hT h m).1 = 11) (hM : ∀ Q1 : hQ, Q1 (.inl (some (si v))) h2 → gS G mX11_reading 1 0 0 [sr (some m)] h Q1) (kk : gZ (LF b L xs) G (mLw nm hh) 60 Q 2313 [some (sr (some b)), some (sr (some x)), some (sr (some m)), some (sr (some o)), some (si (nI i)), none, none] [] K N h2) : gZ (LF b L xs) G (mLw nm hh) 60 Q 1529 [some (sr (some b)), some (sr (some x)), some (sr (some m)), some (sr (some o)), some (si (nI i)), none, none] [] K N h := by
  refine z_aload_n (pc := 1529) (i := 1) dL_law_1529 rfl rfl ?_
  refine z_room (k' := 0 + K) (n' := 0 + N) (by omega) (by omega) ?_
  refine y_V (pc := 1530) (as := []) (st := []) (ci := 9) (N := mX10_reading) (k := K) (n := N) (k1 := 0) (n1 := 0) dL_law_1530 lkL_191 caX10_reading cvX10_reading rfl (by decide) rfl hx (hS (fun o9 h9 => o9 = .inl (some (si v)) ∧ h9 = h) ⟨rfl, rfl⟩) ⟨by decide, by decide⟩ (Nat.le_of_ble_eq_true rfl) (fun v9 h3 q => ?_) (fun E h3 q => nomatch q.1)
  obtain ⟨q1, rfl⟩ := q
  have q3 : v9 = some (si v) := Sum.inl.inj q1
  subst q3
  show gZ (LF b L xs) G (mLw nm hh) 60 Q 1533 [some (sr (some b)), some (sr (some x)), some (sr (some m)), some (sr (some o)), some (si (nI i)), none, none] [si v] K N h3
  refine z_aload_n (pc := 1533) (i := 2) dL_law_1533 rfl rfl ?_
  refine z_room (k' := 0 + K) (n' := 0 + N) (by omega) (by omega) ?_
  refine y_V (pc := 1534) (as := []) (st := [si v]) (ci := 10) (N := mX11_reading) (k := K) (n := N) (k1 := 0) (n1 := 0) dL_law_1534 lkL_194 caX11_reading cvX11_reading rfl (by decide) rfl hm (hM (fun o9 h9 => o9 = .inl (some (si v)) ∧ h9 = h2) ⟨rfl, rfl⟩) ⟨by decide, by decide⟩ (Nat.le_of_ble_eq_true rfl) (fun v9 h4 q => ?_) (fun E h4 q => nomatch q.1)
  obtain ⟨q1, rfl⟩ := q
  have q3 : v9 = some (si v) := Sum.inl.inj q1
  subst q3
  show gZ (LF b L xs) G (mLw nm hh) 60 Q 1537 [some (sr (some b)), some (sr (some x)), some (sr (some m)), some (sr (some o)), some (si (nI i)), none, none] [si v, si v] K N h4
  refine z_icmp_eq (pc := 1537) 2313 dL_law_1537 rfl (fun _ => ?_) (fun hc => absurd rfl hc)
  exact kk
theorem dL_law_1542 : decode cL_law 1542 = .ok (.aload_n 1, 1) := by decide +kernel
theorem dL_law_1543 : decode cL_law 1543 = .ok (.aload_n 0, 1) := by decide +kernel
theorem dL_law_1544 : decode cL_law 1544 = .ok (.iload 4, 2) := by decide +kernel
theorem dL_law_1546 : decode cL_law 1546 = .ok (.iconst 1, 1) := by decide +kernel
theorem dL_law_1547 : decode cL_law 1547 = .ok (.iadd, 1) := by decide +kernel
theorem dL_law_1548 : decode cL_law 1548 = .ok (.iaload, 1) := by decide +kernel
theorem dL_law_1549 : decode cL_law 1549 = .ok (.aload_n 3, 1) := by decide +kernel
theorem dL_law_1550 : decode cL_law 1550 = .ok (.invokestatic 195, 3) := by decide +kernel
theorem dL_law_1553 : decode cL_law 1553 = .ok (.istore 5, 2) := by decide +kernel
theorem dL_law_1555 : decode cL_law 1555 = .ok (.aload_n 2, 1) := by decide +kernel
theorem dL_law_1556 : decode cL_law 1556 = .ok (.aload_n 0, 1) := by decide +kernel
theorem dL_law_1557 : decode cL_law 1557 = .ok (.iload 4, 2) := by decide +kernel
theorem dL_law_1559 : decode cL_law 1559 = .ok (.iconst 1, 1) := by decide +kernel
theorem dL_law_1560 : decode cL_law 1560 = .ok (.iadd, 1) := by decide +kernel
theorem dL_law_1561 : decode cL_law 1561 = .ok (.iaload, 1) := by decide +kernel
theorem dL_law_1562 : decode cL_law 1562 = .ok (.invokevirtual 197, 3) := by decide +kernel
theorem dL_law_1565 : decode cL_law 1565 = .ok (.istore 6, 2) := by decide +kernel
theorem dL_law_1567 : decode cL_law 1567 = .ok (.aload_n 2, 1) := by decide +kernel
theorem dL_law_1568 : decode cL_law 1568 = .ok (.invokevirtual 123, 3) := by decide +kernel
theorem dL_law_1571 : decode cL_law 1571 = .ok (.iload 5, 2) := by decide +kernel
theorem dL_law_1573 : decode cL_law 1573 = .ok (.if_icmp .eq 5, 3) := by decide +kernel
theorem dL_law_1578 : decode cL_law 1578 = .ok (.iload 5, 2) := by decide +kernel
theorem dL_law_1580 : decode cL_law 1580 = .ok (.ifCond .ne 15, 3) := by decide +kernel
theorem dL_law_1583 : decode cL_law 1583 = .ok (.aload_n 3, 1) := by decide +kernel
theorem dL_law_1584 : decode cL_law 1584 = .ok (.iconst 0, 1) := by decide +kernel
theorem dL_law_1585 : decode cL_law 1585 = .ok (.laload, 1) := by decide +kernel
theorem dL_law_1586 : decode cL_law 1586 = .ok (.iload 6, 2) := by decide +kernel
theorem dL_law_1588 : decode cL_law 1588 = .ok (.i2l, 1) := by decide +kernel
theorem dL_law_1589 : decode cL_law 1589 = .ok (.lcmp, 1) := by decide +kernel
theorem dL_law_1590 : decode cL_law 1590 = .ok (.ifCond .eq 5, 3) := by decide +kernel
theorem dL_law_1595 : decode cL_law 1595 = .ok (.goto 718, 3) := by decide +kernel
theorem lkL_195 : Cond.methodLink RL 195 yL_readingAt ∈ XW := xw 1085 (by decide +kernel) rfl
theorem lkL_197 : Cond.methodLink RL 197 yX11_readingAt ∈ XW := xw 1826 (by decide +kernel) rfl
theorem kL_readingAt {nm : String} {hh : List (Nat × Nat × Nat × Nat)} {G : gG} {b L x m o i : Nat} {xs : Nat → Int32} {h h' : hp} {Q : hQ} {K N : Nat} {M : hp → hp} (a : Int32 ⊕ String) (r : aS) (hb : ¬ gb G ≤ b) (hL : L ≤ 2048) (hi : i + 4 ≤ L) (hx : (hT h x).1 = 10) (ho : hT h' o = (24, 1)) (hS : ∀ Q1 : hQ, Q1 (oA a) h' → gS G mX10_readingAt 6 1 6 [sr (some x), si (xs (i + 1))] h Q1) (hA : An [exI] a r) (hM : ∀ h2, HH h' o i2l9 a h2 → MM G mX11_readingAt 1 [si (xs (i + 1))] m o r M h2) (kk : ∀ h2, HH h' o i2l9 a h2 → gZ (LF b L xs) G (mLw nm hh) 60 Q 2313 [some (sr (some b)), some (sr (some x)), some (sr (some m)), some (sr (some o)), some (si (nI i)), none, none] [] K N (M h2)) : gZ (LF b L xs) G (mLw nm hh) 60 Q 1542 [some (sr (some b)), some (sr (some x)), some (sr (some m)), some (sr (some o)), some (si (nI i)), none, none] [] (1 + K) (6 + N) h := by
  refine z_aload_n (pc := 1542) (i := 1) dL_law_1542 rfl rfl ?_
  refine y_arg (pc := 1543) (i := i) 1 hb hL hi (by decide) rfl dL_law_1543 dL_law_1544 dL_law_1546 dL_law_1547 dL_law_1548 rfl rfl ?_
  refine z_aload_n (pc := 1549) (i := 3) dL_law_1549 rfl rfl ?_
  refine y_X (pc := 1550) (as := [sr (some x), si (xs (i + 1)), sr (some o)]) (st := []) (N := mL_readingAt) (k := K) (n := N) (k1 := 1) (n1 := 6) (fun _ z => z.1) dL_law_1550 lkL_195 caL_readingAt rfl (wL_readingAt a hx ho hS (hA.wr o i2l9 h')) ⟨by decide, by decide⟩ (Nat.le_of_ble_eq_true rfl) (fun v h2 q => ?_) (fun E h2 q => nomatch q.1)
  obtain ⟨q1, q2⟩ := q
  have q3 : v = some (si r.1) := Sum.inl.inj q1
  subst q3
  show gZ (LF b L xs) G (mLw nm hh) 60 Q 1553 [some (sr (some b)), some (sr (some x)), some (sr (some m)), some (sr (some o)), some (si (nI i)), none, none] [si r.1] K N h2
  obtain ⟨m1, m2, m3, m4, m5, m6⟩ := hM h2 q2
  refine z_istore (pc := 1553) (i := 5) [some (sr (some b)), some (sr (some x)), some (sr (some m)), some (sr (some o)), some (si (nI i)), some (si r.1), none] dL_law_1553 (show 5 < 7 by decide) rfl rfl ?_
  refine z_aload_n (pc := 1555) (i := 2) dL_law_1555 rfl rfl ?_
  refine y_arg (pc := 1556) (i := i) 1 hb hL hi (by decide) rfl dL_law_1556 dL_law_1557 dL_law_1559 dL_law_1560 dL_law_1561 rfl rfl ?_
  refine z_room (k' := 0 + K) (n' := 0 + N) (by omega) (by omega) ?_
  refine y_V (pc := 1562) (as := [si (xs (i + 1))]) (st := []) (ci := 10) (N := mX11_readingAt) (k := K) (n := N) (k1 := 0) (n1 := 0) dL_law_1562 lkL_197 caX11_readingAt cvX11_readingAt rfl (by decide) rfl m1 (m2 (fun o9 h9 => o9 = .inl (some (si r.2.1)) ∧ h9 = M h2) ⟨rfl, rfl⟩) ⟨by decide, by decide⟩ (Nat.le_of_ble_eq_true rfl) (fun v h3 q => ?_) (fun E h3 q => nomatch q.1)
  obtain ⟨q1, rfl⟩ := q
  have q3 : v = some (si r.2.1) := Sum.inl.inj q1
  subst q3
  show gZ (LF b L xs) G (mLw nm hh) 60 Q 1565 [some (sr (some b)), some (sr (some x)), some (sr (some m)), some (sr (some o)), some (si (nI i)), some (si r.1), none] [si r.2.1] K N (M h2)
  refine z_istore (pc := 1565) (i := 6) [some (sr (some b)), some (sr (some x)), some (sr (some m)), some (sr (some o)), some (si (nI i)), some (si r.1), some (si r.2.1)] dL_law_1565 (show 6 < 7 by decide) rfl rfl ?_
  refine z_aload_n (pc := 1567) (i := 2) dL_law_1567 rfl rfl ?_
  refine z_room (k' := 0 + K) (n' := 0 + N) (by omega) (by omega) ?_
  refine y_V (pc := 1568) (as := []) (st := []) (ci := 10) (N := mX11_thrown) (k := K) (n := N) (k1 := 0) (n1 := 0) dL_law_1568 lkL_123 caX11_thrown cvX11_thrown rfl (by decide) rfl m3 (m4 (fun o9 h9 => o9 = .inl (some (si r.1)) ∧ h9 = M h2) ⟨rfl, rfl⟩) ⟨by decide, by decide⟩ (Nat.le_of_ble_eq_true rfl) (fun v h3 q => ?_) (fun E h3 q => nomatch q.1)
  obtain ⟨q1, rfl⟩ := q
  have q3 : v = some (si r.1) := Sum.inl.inj q1
  subst q3
  show gZ (LF b L xs) G (mLw nm hh) 60 Q 1571 [some (sr (some b)), some (sr (some x)), some (sr (some m)), some (sr (some o)), some (si (nI i)), some (si r.1), some (si r.2.1)] [si r.1] K N (M h2)
  refine z_iload (pc := 1571) (i := 5) dL_law_1571 rfl ?_
  refine z_icmp_eq (pc := 1573) 1578 dL_law_1573 rfl (fun _ => ?_) (fun hc => absurd rfl hc)
  refine z_iload (pc := 1578) (i := 5) dL_law_1578 rfl ?_
  refine z_if_ne (pc := 1580) 1595 dL_law_1580 rfl (fun hc => ?_) (fun hc => ?_)
  · refine z_goto (pc := 1595) 2313 dL_law_1595 rfl ?_
    exact z_less [some (sr (some b)), some (sr (some x)), some (sr (some m)), some (sr (some o)), some (si (nI i)), none, none] law_less (kk h2 q2)
  · refine z_aload_n (pc := 1583) (i := 3) dL_law_1583 rfl rfl ?_
    refine z_iconst (pc := 1584) (v := 0) dL_law_1584 rfl ?_
    refine z_lald (pc := 1585) dL_law_1585 (by rw [m5]) (by rw [m5]; exact in0) ?_
    have hv : hJ (M h2) o (0 : Int32).toNatClampNeg = i2l9 r.2.1 := (show hJ (M h2) o 0 = _ by rw [m6]; exact hA.out (by decide) hc q2)
    rw [hv]
    refine z_iload (pc := 1586) (i := 6) dL_law_1586 rfl ?_
    refine z_i2l (pc := 1588) dL_law_1588 ?_
    refine z_lcmp (pc := 1589) dL_law_1589 ?_
    refine z_if_eq (pc := 1590) 1595 dL_law_1590 rfl (fun _ => ?_) (fun hc9 => absurd (lg_self _) hc9)
    refine z_goto (pc := 1595) 2313 dL_law_1595 rfl ?_
    exact z_less [some (sr (some b)), some (sr (some x)), some (sr (some m)), some (sr (some o)), some (si (nI i)), none, none] law_less (kk h2 q2)
theorem dL_law_1598 : decode cL_law 1598 = .ok (.aload_n 1, 1) := by decide +kernel
theorem dL_law_1599 : decode cL_law 1599 = .ok (.aload_n 0, 1) := by decide +kernel
theorem dL_law_1600 : decode cL_law 1600 = .ok (.iload 4, 2) := by decide +kernel
theorem dL_law_1602 : decode cL_law 1602 = .ok (.iconst 1, 1) := by decide +kernel
theorem dL_law_1603 : decode cL_law 1603 = .ok (.iadd, 1) := by decide +kernel
theorem dL_law_1604 : decode cL_law 1604 = .ok (.iaload, 1) := by decide +kernel
theorem dL_law_1605 : decode cL_law 1605 = .ok (.aload_n 3, 1) := by decide +kernel
theorem dL_law_1606 : decode cL_law 1606 = .ok (.invokestatic 198, 3) := by decide +kernel
theorem dL_law_1609 : decode cL_law 1609 = .ok (.istore 5, 2) := by decide +kernel
theorem dL_law_1611 : decode cL_law 1611 = .ok (.aload_n 2, 1) := by decide +kernel
theorem dL_law_1612 : decode cL_law 1612 = .ok (.aload_n 0, 1) := by decide +kernel
theorem dL_law_1613 : decode cL_law 1613 = .ok (.iload 4, 2) := by decide +kernel
theorem dL_law_1615 : decode cL_law 1615 = .ok (.iconst 1, 1) := by decide +kernel
theorem dL_law_1616 : decode cL_law 1616 = .ok (.iadd, 1) := by decide +kernel
theorem dL_law_1617 : decode cL_law 1617 = .ok (.iaload, 1) := by decide +kernel
theorem dL_law_1618 : decode cL_law 1618 = .ok (.invokevirtual 200, 3) := by decide +kernel
theorem dL_law_1621 : decode cL_law 1621 = .ok (.istore 6, 2) := by decide +kernel
theorem dL_law_1623 : decode cL_law 1623 = .ok (.aload_n 2, 1) := by decide +kernel
theorem dL_law_1624 : decode cL_law 1624 = .ok (.invokevirtual 123, 3) := by decide +kernel
theorem dL_law_1627 : decode cL_law 1627 = .ok (.iload 5, 2) := by decide +kernel
theorem dL_law_1629 : decode cL_law 1629 = .ok (.if_icmp .eq 5, 3) := by decide +kernel
theorem dL_law_1634 : decode cL_law 1634 = .ok (.iload 5, 2) := by decide +kernel
theorem dL_law_1636 : decode cL_law 1636 = .ok (.ifCond .ne 15, 3) := by decide +kernel
theorem dL_law_1639 : decode cL_law 1639 = .ok (.aload_n 3, 1) := by decide +kernel
theorem dL_law_1640 : decode cL_law 1640 = .ok (.iconst 0, 1) := by decide +kernel
theorem dL_law_1641 : decode cL_law 1641 = .ok (.laload, 1) := by decide +kernel
theorem dL_law_1642 : decode cL_law 1642 = .ok (.iload 6, 2) := by decide +kernel
theorem dL_law_1644 : decode cL_law 1644 = .ok (.i2l, 1) := by decide +kernel
theorem dL_law_1645 : decode cL_law 1645 = .ok (.lcmp, 1) := by decide +kernel
theorem dL_law_1646 : decode cL_law 1646 = .ok (.ifCond .eq 5, 3) := by decide +kernel
theorem dL_law_1651 : decode cL_law 1651 = .ok (.goto 662, 3) := by decide +kernel
theorem lkL_198 : Cond.methodLink RL 198 yL_press ∈ XW := xw 1097 (by decide +kernel) rfl
theorem lkL_200 : Cond.methodLink RL 200 yX11_press ∈ XW := xw 1830 (by decide +kernel) rfl
theorem kL_press {nm : String} {hh : List (Nat × Nat × Nat × Nat)} {G : gG} {b L x m o i : Nat} {xs : Nat → Int32} {h h' : hp} {Q : hQ} {K N : Nat} {M : hp → hp} (a : Int32 ⊕ String) (r : aS) (hb : ¬ gb G ≤ b) (hL : L ≤ 2048) (hi : i + 4 ≤ L) (hx : (hT h x).1 = 10) (ho : hT h' o = (24, 1)) (hS : ∀ Q1 : hQ, Q1 (oA a) h' → gS G mX10_press 7 2 12 [sr (some x), si (xs (i + 1))] h Q1) (hA : An [exI, exS] a r) (hM : ∀ h2, HH h' o i2l9 a h2 → MM G mX11_press 1 [si (xs (i + 1))] m o r M h2) (kk : ∀ h2, HH h' o i2l9 a h2 → gZ (LF b L xs) G (mLw nm hh) 60 Q 2313 [some (sr (some b)), some (sr (some x)), some (sr (some m)), some (sr (some o)), some (si (nI i)), none, none] [] K N (M h2)) : gZ (LF b L xs) G (mLw nm hh) 60 Q 1598 [some (sr (some b)), some (sr (some x)), some (sr (some m)), some (sr (some o)), some (si (nI i)), none, none] [] (2 + K) (12 + N) h := by
  refine z_aload_n (pc := 1598) (i := 1) dL_law_1598 rfl rfl ?_
  refine y_arg (pc := 1599) (i := i) 1 hb hL hi (by decide) rfl dL_law_1599 dL_law_1600 dL_law_1602 dL_law_1603 dL_law_1604 rfl rfl ?_
  refine z_aload_n (pc := 1605) (i := 3) dL_law_1605 rfl rfl ?_
  refine y_X (pc := 1606) (as := [sr (some x), si (xs (i + 1)), sr (some o)]) (st := []) (N := mL_press) (k := K) (n := N) (k1 := 2) (n1 := 12) (fun _ z => z.1) dL_law_1606 lkL_198 caL_press rfl (wL_press a hx ho hS (hA.wr o i2l9 h')) ⟨by decide, by decide⟩ (Nat.le_of_ble_eq_true rfl) (fun v h2 q => ?_) (fun E h2 q => nomatch q.1)
  obtain ⟨q1, q2⟩ := q
  have q3 : v = some (si r.1) := Sum.inl.inj q1
  subst q3
  show gZ (LF b L xs) G (mLw nm hh) 60 Q 1609 [some (sr (some b)), some (sr (some x)), some (sr (some m)), some (sr (some o)), some (si (nI i)), none, none] [si r.1] K N h2
  obtain ⟨m1, m2, m3, m4, m5, m6⟩ := hM h2 q2
  refine z_istore (pc := 1609) (i := 5) [some (sr (some b)), some (sr (some x)), some (sr (some m)), some (sr (some o)), some (si (nI i)), some (si r.1), none] dL_law_1609 (show 5 < 7 by decide) rfl rfl ?_
  refine z_aload_n (pc := 1611) (i := 2) dL_law_1611 rfl rfl ?_
  refine y_arg (pc := 1612) (i := i) 1 hb hL hi (by decide) rfl dL_law_1612 dL_law_1613 dL_law_1615 dL_law_1616 dL_law_1617 rfl rfl ?_
  refine z_room (k' := 0 + K) (n' := 0 + N) (by omega) (by omega) ?_
  refine y_V (pc := 1618) (as := [si (xs (i + 1))]) (st := []) (ci := 10) (N := mX11_press) (k := K) (n := N) (k1 := 0) (n1 := 0) dL_law_1618 lkL_200 caX11_press cvX11_press rfl (by decide) rfl m1 (m2 (fun o9 h9 => o9 = .inl (some (si r.2.1)) ∧ h9 = M h2) ⟨rfl, rfl⟩) ⟨by decide, by decide⟩ (Nat.le_of_ble_eq_true rfl) (fun v h3 q => ?_) (fun E h3 q => nomatch q.1)
  obtain ⟨q1, rfl⟩ := q
  have q3 : v = some (si r.2.1) := Sum.inl.inj q1
  subst q3
  show gZ (LF b L xs) G (mLw nm hh) 60 Q 1621 [some (sr (some b)), some (sr (some x)), some (sr (some m)), some (sr (some o)), some (si (nI i)), some (si r.1), none] [si r.2.1] K N (M h2)
  refine z_istore (pc := 1621) (i := 6) [some (sr (some b)), some (sr (some x)), some (sr (some m)), some (sr (some o)), some (si (nI i)), some (si r.1), some (si r.2.1)] dL_law_1621 (show 6 < 7 by decide) rfl rfl ?_
  refine z_aload_n (pc := 1623) (i := 2) dL_law_1623 rfl rfl ?_
  refine z_room (k' := 0 + K) (n' := 0 + N) (by omega) (by omega) ?_
  refine y_V (pc := 1624) (as := []) (st := []) (ci := 10) (N := mX11_thrown) (k := K) (n := N) (k1 := 0) (n1 := 0) dL_law_1624 lkL_123 caX11_thrown cvX11_thrown rfl (by decide) rfl m3 (m4 (fun o9 h9 => o9 = .inl (some (si r.1)) ∧ h9 = M h2) ⟨rfl, rfl⟩) ⟨by decide, by decide⟩ (Nat.le_of_ble_eq_true rfl) (fun v h3 q => ?_) (fun E h3 q => nomatch q.1)
  obtain ⟨q1, rfl⟩ := q
  have q3 : v = some (si r.1) := Sum.inl.inj q1
  subst q3
  show gZ (LF b L xs) G (mLw nm hh) 60 Q 1627 [some (sr (some b)), some (sr (some x)), some (sr (some m)), some (sr (some o)), some (si (nI i)), some (si r.1), some (si r.2.1)] [si r.1] K N (M h2)
  refine z_iload (pc := 1627) (i := 5) dL_law_1627 rfl ?_
  refine z_icmp_eq (pc := 1629) 1634 dL_law_1629 rfl (fun _ => ?_) (fun hc => absurd rfl hc)
  refine z_iload (pc := 1634) (i := 5) dL_law_1634 rfl ?_
  refine z_if_ne (pc := 1636) 1651 dL_law_1636 rfl (fun hc => ?_) (fun hc => ?_)
  · refine z_goto (pc := 1651) 2313 dL_law_1651 rfl ?_
    exact z_less [some (sr (some b)), some (sr (some x)), some (sr (some m)), some (sr (some o)), some (si (nI i)), none, none] law_less (kk h2 q2)
  · refine z_aload_n (pc := 1639) (i := 3) dL_law_1639 rfl rfl ?_
    refine z_iconst (pc := 1640) (v := 0) dL_law_1640 rfl ?_
    refine z_lald (pc := 1641) dL_law_1641 (by rw [m5]) (by rw [m5]; exact in0) ?_
    have hv : hJ (M h2) o (0 : Int32).toNatClampNeg = i2l9 r.2.1 := (show hJ (M h2) o 0 = _ by rw [m6]; exact hA.out (by decide) hc q2)
    rw [hv]
    refine z_iload (pc := 1642) (i := 6) dL_law_1642 rfl ?_
    refine z_i2l (pc := 1644) dL_law_1644 ?_
    refine z_lcmp (pc := 1645) dL_law_1645 ?_
    refine z_if_eq (pc := 1646) 1651 dL_law_1646 rfl (fun _ => ?_) (fun hc9 => absurd (lg_self _) hc9)
    refine z_goto (pc := 1651) 2313 dL_law_1651 rfl ?_
    exact z_less [some (sr (some b)), some (sr (some x)), some (sr (some m)), some (sr (some o)), some (si (nI i)), none, none] law_less (kk h2 q2)
theorem dL_law_1654 : decode cL_law 1654 = .ok (.aload_n 1, 1) := by decide +kernel
theorem dL_law_1655 : decode cL_law 1655 = .ok (.aload_n 0, 1) := by decide +kernel
theorem dL_law_1656 : decode cL_law 1656 = .ok (.iload 4, 2) := by decide +kernel
theorem dL_law_1658 : decode cL_law 1658 = .ok (.iconst 1, 1) := by decide +kernel
theorem dL_law_1659 : decode cL_law 1659 = .ok (.iadd, 1) := by decide +kernel
theorem dL_law_1660 : decode cL_law 1660 = .ok (.iaload, 1) := by decide +kernel
theorem dL_law_1661 : decode cL_law 1661 = .ok (.aload_n 3, 1) := by decide +kernel
theorem dL_law_1662 : decode cL_law 1662 = .ok (.invokestatic 201, 3) := by decide +kernel
theorem dL_law_1665 : decode cL_law 1665 = .ok (.istore 5, 2) := by decide +kernel
theorem dL_law_1667 : decode cL_law 1667 = .ok (.aload_n 2, 1) := by decide +kernel
theorem dL_law_1668 : decode cL_law 1668 = .ok (.aload_n 0, 1) := by decide +kernel
theorem dL_law_1669 : decode cL_law 1669 = .ok (.iload 4, 2) := by decide +kernel
theorem dL_law_1671 : decode cL_law 1671 = .ok (.iconst 1, 1) := by decide +kernel
theorem dL_law_1672 : decode cL_law 1672 = .ok (.iadd, 1) := by decide +kernel
theorem dL_law_1673 : decode cL_law 1673 = .ok (.iaload, 1) := by decide +kernel
theorem dL_law_1674 : decode cL_law 1674 = .ok (.invokevirtual 203, 3) := by decide +kernel
theorem dL_law_1677 : decode cL_law 1677 = .ok (.istore 6, 2) := by decide +kernel
theorem dL_law_1679 : decode cL_law 1679 = .ok (.aload_n 2, 1) := by decide +kernel
theorem dL_law_1680 : decode cL_law 1680 = .ok (.invokevirtual 123, 3) := by decide +kernel
theorem dL_law_1683 : decode cL_law 1683 = .ok (.iload 5, 2) := by decide +kernel
theorem dL_law_1685 : decode cL_law 1685 = .ok (.if_icmp .eq 5, 3) := by decide +kernel
theorem dL_law_1690 : decode cL_law 1690 = .ok (.iload 5, 2) := by decide +kernel
theorem dL_law_1692 : decode cL_law 1692 = .ok (.ifCond .ne 15, 3) := by decide +kernel
theorem dL_law_1695 : decode cL_law 1695 = .ok (.aload_n 3, 1) := by decide +kernel
theorem dL_law_1696 : decode cL_law 1696 = .ok (.iconst 0, 1) := by decide +kernel
theorem dL_law_1697 : decode cL_law 1697 = .ok (.laload, 1) := by decide +kernel
theorem dL_law_1698 : decode cL_law 1698 = .ok (.iload 6, 2) := by decide +kernel
theorem dL_law_1700 : decode cL_law 1700 = .ok (.i2l, 1) := by decide +kernel
theorem dL_law_1701 : decode cL_law 1701 = .ok (.lcmp, 1) := by decide +kernel
theorem dL_law_1702 : decode cL_law 1702 = .ok (.ifCond .eq 5, 3) := by decide +kernel
theorem dL_law_1707 : decode cL_law 1707 = .ok (.goto 606, 3) := by decide +kernel
theorem lkL_201 : Cond.methodLink RL 201 yL_release ∈ XW := xw 1115 (by decide +kernel) rfl
theorem lkL_203 : Cond.methodLink RL 203 yX11_release ∈ XW := xw 1837 (by decide +kernel) rfl
theorem kL_release {nm : String} {hh : List (Nat × Nat × Nat × Nat)} {G : gG} {b L x m o i : Nat} {xs : Nat → Int32} {h h' : hp} {Q : hQ} {K N : Nat} {M : hp → hp} (a : Int32 ⊕ String) (r : aS) (hb : ¬ gb G ≤ b) (hL : L ≤ 2048) (hi : i + 4 ≤ L) (hx : (hT h x).1 = 10) (ho : hT h' o = (24, 1)) (hS : ∀ Q1 : hQ, Q1 (oA a) h' → gS G mX10_release 9 2 12 [sr (some x), si (xs (i + 1))] h Q1) (hA : An [exI, exS] a r) (hM : ∀ h2, HH h' o i2l9 a h2 → MM G mX11_release 10 [si (xs (i + 1))] m o r M h2) (kk : ∀ h2, HH h' o i2l9 a h2 → gZ (LF b L xs) G (mLw nm hh) 60 Q 2313 [some (sr (some b)), some (sr (some x)), some (sr (some m)), some (sr (some o)), some (si (nI i)), none, none] [] K N (M h2)) : gZ (LF b L xs) G (mLw nm hh) 60 Q 1654 [some (sr (some b)), some (sr (some x)), some (sr (some m)), some (sr (some o)), some (si (nI i)), none, none] [] (2 + K) (12 + N) h := by
  refine z_aload_n (pc := 1654) (i := 1) dL_law_1654 rfl rfl ?_
  refine y_arg (pc := 1655) (i := i) 1 hb hL hi (by decide) rfl dL_law_1655 dL_law_1656 dL_law_1658 dL_law_1659 dL_law_1660 rfl rfl ?_
  refine z_aload_n (pc := 1661) (i := 3) dL_law_1661 rfl rfl ?_
  refine y_X (pc := 1662) (as := [sr (some x), si (xs (i + 1)), sr (some o)]) (st := []) (N := mL_release) (k := K) (n := N) (k1 := 2) (n1 := 12) (fun _ z => z.1) dL_law_1662 lkL_201 caL_release rfl (wL_release a hx ho hS (hA.wr o i2l9 h')) ⟨by decide, by decide⟩ (Nat.le_of_ble_eq_true rfl) (fun v h2 q => ?_) (fun E h2 q => nomatch q.1)
  obtain ⟨q1, q2⟩ := q
  have q3 : v = some (si r.1) := Sum.inl.inj q1
  subst q3
  show gZ (LF b L xs) G (mLw nm hh) 60 Q 1665 [some (sr (some b)), some (sr (some x)), some (sr (some m)), some (sr (some o)), some (si (nI i)), none, none] [si r.1] K N h2
  obtain ⟨m1, m2, m3, m4, m5, m6⟩ := hM h2 q2
  refine z_istore (pc := 1665) (i := 5) [some (sr (some b)), some (sr (some x)), some (sr (some m)), some (sr (some o)), some (si (nI i)), some (si r.1), none] dL_law_1665 (show 5 < 7 by decide) rfl rfl ?_
  refine z_aload_n (pc := 1667) (i := 2) dL_law_1667 rfl rfl ?_
  refine y_arg (pc := 1668) (i := i) 1 hb hL hi (by decide) rfl dL_law_1668 dL_law_1669 dL_law_1671 dL_law_1672 dL_law_1673 rfl rfl ?_
  refine z_room (k' := 0 + K) (n' := 0 + N) (by omega) (by omega) ?_
  refine y_V (pc := 1674) (as := [si (xs (i + 1))]) (st := []) (ci := 10) (N := mX11_release) (k := K) (n := N) (k1 := 0) (n1 := 0) dL_law_1674 lkL_203 caX11_release cvX11_release rfl (by decide) rfl m1 (m2 (fun o9 h9 => o9 = .inl (some (si r.2.1)) ∧ h9 = M h2) ⟨rfl, rfl⟩) ⟨by decide, by decide⟩ (Nat.le_of_ble_eq_true rfl) (fun v h3 q => ?_) (fun E h3 q => nomatch q.1)
  obtain ⟨q1, rfl⟩ := q
  have q3 : v = some (si r.2.1) := Sum.inl.inj q1
  subst q3
  show gZ (LF b L xs) G (mLw nm hh) 60 Q 1677 [some (sr (some b)), some (sr (some x)), some (sr (some m)), some (sr (some o)), some (si (nI i)), some (si r.1), none] [si r.2.1] K N (M h2)
  refine z_istore (pc := 1677) (i := 6) [some (sr (some b)), some (sr (some x)), some (sr (some m)), some (sr (some o)), some (si (nI i)), some (si r.1), some (si r.2.1)] dL_law_1677 (show 6 < 7 by decide) rfl rfl ?_
  refine z_aload_n (pc := 1679) (i := 2) dL_law_1679 rfl rfl ?_
  refine z_room (k' := 0 + K) (n' := 0 + N) (by omega) (by omega) ?_
  refine y_V (pc := 1680) (as := []) (st := []) (ci := 10) (N := mX11_thrown) (k := K) (n := N) (k1 := 0) (n1 := 0) dL_law_1680 lkL_123 caX11_thrown cvX11_thrown rfl (by decide) rfl m3 (m4 (fun o9 h9 => o9 = .inl (some (si r.1)) ∧ h9 = M h2) ⟨rfl, rfl⟩) ⟨by decide, by decide⟩ (Nat.le_of_ble_eq_true rfl) (fun v h3 q => ?_) (fun E h3 q => nomatch q.1)
  obtain ⟨q1, rfl⟩ := q
  have q3 : v = some (si r.1) := Sum.inl.inj q1
  subst q3
  show gZ (LF b L xs) G (mLw nm hh) 60 Q 1683 [some (sr (some b)), some (sr (some x)), some (sr (some m)), some (sr (some o)), some (si (nI i)), some (si r.1), some (si r.2.1)] [si r.1] K N (M h2)
  refine z_iload (pc := 1683) (i := 5) dL_law_1683 rfl ?_
  refine z_icmp_eq (pc := 1685) 1690 dL_law_1685 rfl (fun _ => ?_) (fun hc => absurd rfl hc)
  refine z_iload (pc := 1690) (i := 5) dL_law_1690 rfl ?_
  refine z_if_ne (pc := 1692) 1707 dL_law_1692 rfl (fun hc => ?_) (fun hc => ?_)
  · refine z_goto (pc := 1707) 2313 dL_law_1707 rfl ?_
    exact z_less [some (sr (some b)), some (sr (some x)), some (sr (some m)), some (sr (some o)), some (si (nI i)), none, none] law_less (kk h2 q2)
  · refine z_aload_n (pc := 1695) (i := 3) dL_law_1695 rfl rfl ?_
    refine z_iconst (pc := 1696) (v := 0) dL_law_1696 rfl ?_
    refine z_lald (pc := 1697) dL_law_1697 (by rw [m5]) (by rw [m5]; exact in0) ?_
    have hv : hJ (M h2) o (0 : Int32).toNatClampNeg = i2l9 r.2.1 := (show hJ (M h2) o 0 = _ by rw [m6]; exact hA.out (by decide) hc q2)
    rw [hv]
    refine z_iload (pc := 1698) (i := 6) dL_law_1698 rfl ?_
    refine z_i2l (pc := 1700) dL_law_1700 ?_
    refine z_lcmp (pc := 1701) dL_law_1701 ?_
    refine z_if_eq (pc := 1702) 1707 dL_law_1702 rfl (fun _ => ?_) (fun hc9 => absurd (lg_self _) hc9)
    refine z_goto (pc := 1707) 2313 dL_law_1707 rfl ?_
    exact z_less [some (sr (some b)), some (sr (some x)), some (sr (some m)), some (sr (some o)), some (si (nI i)), none, none] law_less (kk h2 q2)
