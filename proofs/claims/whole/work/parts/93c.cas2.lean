/-! ===== cases of the law ===== -/
theorem dL_law_511 : decode cL_law 511 = .ok (.aload_n 1, 1) := by decide +kernel
theorem dL_law_512 : decode cL_law 512 = .ok (.aload_n 0, 1) := by decide +kernel
theorem dL_law_513 : decode cL_law 513 = .ok (.iload 4, 2) := by decide +kernel
theorem dL_law_515 : decode cL_law 515 = .ok (.iconst 1, 1) := by decide +kernel
theorem dL_law_516 : decode cL_law 516 = .ok (.iadd, 1) := by decide +kernel
theorem dL_law_517 : decode cL_law 517 = .ok (.iaload, 1) := by decide +kernel
theorem dL_law_518 : decode cL_law 518 = .ok (.aload_n 3, 1) := by decide +kernel
theorem dL_law_519 : decode cL_law 519 = .ok (.invokestatic 138, 3) := by decide +kernel
theorem dL_law_522 : decode cL_law 522 = .ok (.istore 5, 2) := by decide +kernel
theorem dL_law_524 : decode cL_law 524 = .ok (.aload_n 2, 1) := by decide +kernel
theorem dL_law_525 : decode cL_law 525 = .ok (.aload_n 0, 1) := by decide +kernel
theorem dL_law_526 : decode cL_law 526 = .ok (.iload 4, 2) := by decide +kernel
theorem dL_law_528 : decode cL_law 528 = .ok (.iconst 1, 1) := by decide +kernel
theorem dL_law_529 : decode cL_law 529 = .ok (.iadd, 1) := by decide +kernel
theorem dL_law_530 : decode cL_law 530 = .ok (.iaload, 1) := by decide +kernel
theorem dL_law_531 : decode cL_law 531 = .ok (.invokevirtual 140, 3) := by decide +kernel
theorem dL_law_534 : decode cL_law 534 = .ok (.istore 6, 2) := by decide +kernel
theorem dL_law_536 : decode cL_law 536 = .ok (.aload_n 2, 1) := by decide +kernel
theorem dL_law_537 : decode cL_law 537 = .ok (.invokevirtual 123, 3) := by decide +kernel
theorem dL_law_540 : decode cL_law 540 = .ok (.iload 5, 2) := by decide +kernel
theorem dL_law_542 : decode cL_law 542 = .ok (.if_icmp .eq 5, 3) := by decide +kernel
theorem dL_law_547 : decode cL_law 547 = .ok (.iload 5, 2) := by decide +kernel
theorem dL_law_549 : decode cL_law 549 = .ok (.ifCond .ne 15, 3) := by decide +kernel
theorem dL_law_552 : decode cL_law 552 = .ok (.aload_n 3, 1) := by decide +kernel
theorem dL_law_553 : decode cL_law 553 = .ok (.iconst 0, 1) := by decide +kernel
theorem dL_law_554 : decode cL_law 554 = .ok (.laload, 1) := by decide +kernel
theorem dL_law_555 : decode cL_law 555 = .ok (.iload 6, 2) := by decide +kernel
theorem dL_law_557 : decode cL_law 557 = .ok (.i2l, 1) := by decide +kernel
theorem dL_law_558 : decode cL_law 558 = .ok (.lcmp, 1) := by decide +kernel
theorem dL_law_559 : decode cL_law 559 = .ok (.ifCond .eq 5, 3) := by decide +kernel
theorem dL_law_564 : decode cL_law 564 = .ok (.goto 1749, 3) := by decide +kernel
theorem lkL_138 : Cond.methodLink RL 138 yL_rename ∈ XW := xw 951 (by decide +kernel) rfl
theorem lkL_140 : Cond.methodLink RL 140 yX11_rename ∈ XW := xw 1746 (by decide +kernel) rfl
theorem kL_rename {nm : String} {hh : List (Nat × Nat × Nat × Nat)} {G : gG} {b L x m o i : Nat} {xs : Nat → Int32} {h h' : hp} {Q : hQ} {K N : Nat} {M : hp → hp} (a : Int32 ⊕ String) (r : aS) (hb : ¬ gb G ≤ b) (hL : L ≤ 2048) (hi : i + 4 ≤ L) (hx : (hT h x).1 = 10) (ho : hT h' o = (24, 1)) (hS : ∀ Q1 : hQ, Q1 (oA a) h' → gS G mX10_rename 8 3 18 [sr (some x), si (xs (i + 1))] h Q1) (hA : An [exI, exS] a r) (hM : ∀ h2, HH h' o i2l9 a h2 → MM G mX11_rename 6 [si (xs (i + 1))] m o r M h2) (kk : ∀ h2, HH h' o i2l9 a h2 → gZ (LF b L xs) G (mLw nm hh) 60 Q 2313 [some (sr (some b)), some (sr (some x)), some (sr (some m)), some (sr (some o)), some (si (nI i)), none, none] [] K N (M h2)) : gZ (LF b L xs) G (mLw nm hh) 60 Q 511 [some (sr (some b)), some (sr (some x)), some (sr (some m)), some (sr (some o)), some (si (nI i)), none, none] [] (3 + K) (18 + N) h := by
  refine z_aload_n (pc := 511) (i := 1) dL_law_511 rfl rfl ?_
  refine y_arg (pc := 512) (i := i) 1 hb hL hi (by decide) rfl dL_law_512 dL_law_513 dL_law_515 dL_law_516 dL_law_517 rfl rfl ?_
  refine z_aload_n (pc := 518) (i := 3) dL_law_518 rfl rfl ?_
  refine y_X (pc := 519) (as := [sr (some x), si (xs (i + 1)), sr (some o)]) (st := []) (N := mL_rename) (k := K) (n := N) (k1 := 3) (n1 := 18) (fun _ z => z.1) dL_law_519 lkL_138 caL_rename rfl (wL_rename a hx ho hS (hA.wr o i2l9 h')) ⟨by decide, by decide⟩ (Nat.le_of_ble_eq_true rfl) (fun v h2 q => ?_) (fun E h2 q => nomatch q.1)
  obtain ⟨q1, q2⟩ := q
  have q3 : v = some (si r.1) := Sum.inl.inj q1
  subst q3
  show gZ (LF b L xs) G (mLw nm hh) 60 Q 522 [some (sr (some b)), some (sr (some x)), some (sr (some m)), some (sr (some o)), some (si (nI i)), none, none] [si r.1] K N h2
  obtain ⟨m1, m2, m3, m4, m5, m6⟩ := hM h2 q2
  refine z_istore (pc := 522) (i := 5) [some (sr (some b)), some (sr (some x)), some (sr (some m)), some (sr (some o)), some (si (nI i)), some (si r.1), none] dL_law_522 (show 5 < 7 by decide) rfl rfl ?_
  refine z_aload_n (pc := 524) (i := 2) dL_law_524 rfl rfl ?_
  refine y_arg (pc := 525) (i := i) 1 hb hL hi (by decide) rfl dL_law_525 dL_law_526 dL_law_528 dL_law_529 dL_law_530 rfl rfl ?_
  refine z_room (k' := 0 + K) (n' := 0 + N) (by omega) (by omega) ?_
  refine y_V (pc := 531) (as := [si (xs (i + 1))]) (st := []) (ci := 10) (N := mX11_rename) (k := K) (n := N) (k1 := 0) (n1 := 0) dL_law_531 lkL_140 caX11_rename cvX11_rename rfl (by decide) rfl m1 (m2 (fun o9 h9 => o9 = .inl (some (si r.2.1)) ∧ h9 = M h2) ⟨rfl, rfl⟩) ⟨by decide, by decide⟩ (Nat.le_of_ble_eq_true rfl) (fun v h3 q => ?_) (fun E h3 q => nomatch q.1)
  obtain ⟨q1, rfl⟩ := q
  have q3 : v = some (si r.2.1) := Sum.inl.inj q1
  subst q3
  show gZ (LF b L xs) G (mLw nm hh) 60 Q 534 [some (sr (some b)), some (sr (some x)), some (sr (some m)), some (sr (some o)), some (si (nI i)), some (si r.1), none] [si r.2.1] K N (M h2)
  refine z_istore (pc := 534) (i := 6) [some (sr (some b)), some (sr (some x)), some (sr (some m)), some (sr (some o)), some (si (nI i)), some (si r.1), some (si r.2.1)] dL_law_534 (show 6 < 7 by decide) rfl rfl ?_
  refine z_aload_n (pc := 536) (i := 2) dL_law_536 rfl rfl ?_
  refine z_room (k' := 0 + K) (n' := 0 + N) (by omega) (by omega) ?_
  refine y_V (pc := 537) (as := []) (st := []) (ci := 10) (N := mX11_thrown) (k := K) (n := N) (k1 := 0) (n1 := 0) dL_law_537 lkL_123 caX11_thrown cvX11_thrown rfl (by decide) rfl m3 (m4 (fun o9 h9 => o9 = .inl (some (si r.1)) ∧ h9 = M h2) ⟨rfl, rfl⟩) ⟨by decide, by decide⟩ (Nat.le_of_ble_eq_true rfl) (fun v h3 q => ?_) (fun E h3 q => nomatch q.1)
  obtain ⟨q1, rfl⟩ := q
  have q3 : v = some (si r.1) := Sum.inl.inj q1
  subst q3
  show gZ (LF b L xs) G (mLw nm hh) 60 Q 540 [some (sr (some b)), some (sr (some x)), some (sr (some m)), some (sr (some o)), some (si (nI i)), some (si r.1), some (si r.2.1)] [si r.1] K N (M h2)
  refine z_iload (pc := 540) (i := 5) dL_law_540 rfl ?_
  refine z_icmp_eq (pc := 542) 547 dL_law_542 rfl (fun _ => ?_) (fun hc => absurd rfl hc)
  refine z_iload (pc := 547) (i := 5) dL_law_547 rfl ?_
  refine z_if_ne (pc := 549) 564 dL_law_549 rfl (fun hc => ?_) (fun hc => ?_)
  · refine z_goto (pc := 564) 2313 dL_law_564 rfl ?_
    exact z_less [some (sr (some b)), some (sr (some x)), some (sr (some m)), some (sr (some o)), some (si (nI i)), none, none] law_less (kk h2 q2)
  · refine z_aload_n (pc := 552) (i := 3) dL_law_552 rfl rfl ?_
    refine z_iconst (pc := 553) (v := 0) dL_law_553 rfl ?_
    refine z_lald (pc := 554) dL_law_554 (by rw [m5]) (by rw [m5]; exact in0) ?_
    have hv : hJ (M h2) o (0 : Int32).toNatClampNeg = i2l9 r.2.1 := (show hJ (M h2) o 0 = _ by rw [m6]; exact hA.out (by decide) hc q2)
    rw [hv]
    refine z_iload (pc := 555) (i := 6) dL_law_555 rfl ?_
    refine z_i2l (pc := 557) dL_law_557 ?_
    refine z_lcmp (pc := 558) dL_law_558 ?_
    refine z_if_eq (pc := 559) 564 dL_law_559 rfl (fun _ => ?_) (fun hc9 => absurd (lg_self _) hc9)
    refine z_goto (pc := 564) 2313 dL_law_564 rfl ?_
    exact z_less [some (sr (some b)), some (sr (some x)), some (sr (some m)), some (sr (some o)), some (si (nI i)), none, none] law_less (kk h2 q2)
theorem dL_law_567 : decode cL_law 567 = .ok (.aload_n 1, 1) := by decide +kernel
theorem dL_law_568 : decode cL_law 568 = .ok (.aload_n 0, 1) := by decide +kernel
theorem dL_law_569 : decode cL_law 569 = .ok (.iload 4, 2) := by decide +kernel
theorem dL_law_571 : decode cL_law 571 = .ok (.iconst 1, 1) := by decide +kernel
theorem dL_law_572 : decode cL_law 572 = .ok (.iadd, 1) := by decide +kernel
theorem dL_law_573 : decode cL_law 573 = .ok (.iaload, 1) := by decide +kernel
theorem dL_law_574 : decode cL_law 574 = .ok (.aload_n 0, 1) := by decide +kernel
theorem dL_law_575 : decode cL_law 575 = .ok (.iload 4, 2) := by decide +kernel
theorem dL_law_577 : decode cL_law 577 = .ok (.iconst 2, 1) := by decide +kernel
theorem dL_law_578 : decode cL_law 578 = .ok (.iadd, 1) := by decide +kernel
theorem dL_law_579 : decode cL_law 579 = .ok (.iaload, 1) := by decide +kernel
theorem dL_law_580 : decode cL_law 580 = .ok (.ifCond .eq 7, 3) := by decide +kernel
theorem dL_law_583 : decode cL_law 583 = .ok (.iconst 1, 1) := by decide +kernel
theorem dL_law_584 : decode cL_law 584 = .ok (.goto 4, 3) := by decide +kernel
theorem dL_law_587 : decode cL_law 587 = .ok (.iconst 0, 1) := by decide +kernel
theorem dL_law_588 : decode cL_law 588 = .ok (.aload_n 3, 1) := by decide +kernel
theorem dL_law_589 : decode cL_law 589 = .ok (.invokestatic 141, 3) := by decide +kernel
theorem dL_law_592 : decode cL_law 592 = .ok (.istore 5, 2) := by decide +kernel
theorem dL_law_594 : decode cL_law 594 = .ok (.aload_n 2, 1) := by decide +kernel
theorem dL_law_595 : decode cL_law 595 = .ok (.aload_n 0, 1) := by decide +kernel
theorem dL_law_596 : decode cL_law 596 = .ok (.iload 4, 2) := by decide +kernel
theorem dL_law_598 : decode cL_law 598 = .ok (.iconst 1, 1) := by decide +kernel
theorem dL_law_599 : decode cL_law 599 = .ok (.iadd, 1) := by decide +kernel
theorem dL_law_600 : decode cL_law 600 = .ok (.iaload, 1) := by decide +kernel
theorem dL_law_601 : decode cL_law 601 = .ok (.aload_n 0, 1) := by decide +kernel
theorem dL_law_602 : decode cL_law 602 = .ok (.iload 4, 2) := by decide +kernel
theorem dL_law_604 : decode cL_law 604 = .ok (.iconst 2, 1) := by decide +kernel
theorem dL_law_605 : decode cL_law 605 = .ok (.iadd, 1) := by decide +kernel
theorem dL_law_606 : decode cL_law 606 = .ok (.iaload, 1) := by decide +kernel
theorem dL_law_607 : decode cL_law 607 = .ok (.ifCond .eq 7, 3) := by decide +kernel
theorem dL_law_610 : decode cL_law 610 = .ok (.iconst 1, 1) := by decide +kernel
theorem dL_law_611 : decode cL_law 611 = .ok (.goto 4, 3) := by decide +kernel
theorem dL_law_614 : decode cL_law 614 = .ok (.iconst 0, 1) := by decide +kernel
theorem dL_law_615 : decode cL_law 615 = .ok (.invokevirtual 143, 3) := by decide +kernel
theorem dL_law_618 : decode cL_law 618 = .ok (.istore 6, 2) := by decide +kernel
theorem dL_law_620 : decode cL_law 620 = .ok (.aload_n 2, 1) := by decide +kernel
theorem dL_law_621 : decode cL_law 621 = .ok (.invokevirtual 123, 3) := by decide +kernel
theorem dL_law_624 : decode cL_law 624 = .ok (.iload 5, 2) := by decide +kernel
theorem dL_law_626 : decode cL_law 626 = .ok (.if_icmp .eq 5, 3) := by decide +kernel
theorem dL_law_631 : decode cL_law 631 = .ok (.iload 5, 2) := by decide +kernel
theorem dL_law_633 : decode cL_law 633 = .ok (.ifCond .ne 22, 3) := by decide +kernel
theorem dL_law_636 : decode cL_law 636 = .ok (.aload_n 3, 1) := by decide +kernel
theorem dL_law_637 : decode cL_law 637 = .ok (.iconst 0, 1) := by decide +kernel
theorem dL_law_638 : decode cL_law 638 = .ok (.laload, 1) := by decide +kernel
theorem dL_law_639 : decode cL_law 639 = .ok (.iload 6, 2) := by decide +kernel
theorem dL_law_641 : decode cL_law 641 = .ok (.ifCond .eq 7, 3) := by decide +kernel
theorem dL_law_644 : decode cL_law 644 = .ok (.lconst 1, 1) := by decide +kernel
theorem dL_law_645 : decode cL_law 645 = .ok (.goto 4, 3) := by decide +kernel
theorem dL_law_648 : decode cL_law 648 = .ok (.lconst 0, 1) := by decide +kernel
theorem dL_law_649 : decode cL_law 649 = .ok (.lcmp, 1) := by decide +kernel
theorem dL_law_650 : decode cL_law 650 = .ok (.ifCond .eq 5, 3) := by decide +kernel
theorem dL_law_655 : decode cL_law 655 = .ok (.goto 1658, 3) := by decide +kernel
theorem lkL_141 : Cond.methodLink RL 141 yL_set ∈ XW := xw 967 (by decide +kernel) rfl
theorem lkL_143 : Cond.methodLink RL 143 yX11_set ∈ XW := xw 1750 (by decide +kernel) rfl
theorem kL_set {nm : String} {hh : List (Nat × Nat × Nat × Nat)} {G : gG} {b L x m o i : Nat} {xs : Nat → Int32} {h h' : hp} {Q : hQ} {K N : Nat} {M : hp → hp} (a : Int32 ⊕ String) (r : aS) (hb : ¬ gb G ≤ b) (hL : L ≤ 2048) (hi : i + 4 ≤ L) (hx : (hT h x).1 = 10) (ho : hT h' o = (24, 1)) (hS : ∀ Q1 : hQ, Q1 (oA a) h' → gS G mX10_set 8 2 12 [sr (some x), si (xs (i + 1)), si (zb (xs (i + 2)))] h Q1) (hA : An [exI, exS] a r) (hM : ∀ h2, HH h' o b2l a h2 → MM G mX11_set 6 [si (xs (i + 1)), si (zb (xs (i + 2)))] m o r M h2) (kk : ∀ h2, HH h' o b2l a h2 → gZ (LF b L xs) G (mLw nm hh) 60 Q 2313 [some (sr (some b)), some (sr (some x)), some (sr (some m)), some (sr (some o)), some (si (nI i)), none, none] [] K N (M h2)) : gZ (LF b L xs) G (mLw nm hh) 60 Q 567 [some (sr (some b)), some (sr (some x)), some (sr (some m)), some (sr (some o)), some (si (nI i)), none, none] [] (2 + K) (12 + N) h := by
  refine z_aload_n (pc := 567) (i := 1) dL_law_567 rfl rfl ?_
  refine y_arg (pc := 568) (i := i) 1 hb hL hi (by decide) rfl dL_law_568 dL_law_569 dL_law_571 dL_law_572 dL_law_573 rfl rfl ?_
  refine y_arg (pc := 574) (i := i) 2 hb hL hi (by decide) rfl dL_law_574 dL_law_575 dL_law_577 dL_law_578 dL_law_579 rfl rfl ?_
  refine y_nz (pc := 580) 587 588 dL_law_580 dL_law_583 dL_law_584 dL_law_587 rfl rfl rfl ?_
  refine z_aload_n (pc := 588) (i := 3) dL_law_588 rfl rfl ?_
  refine y_X (pc := 589) (as := [sr (some x), si (xs (i + 1)), si (zb (xs (i + 2))), sr (some o)]) (st := []) (N := mL_set) (k := K) (n := N) (k1 := 2) (n1 := 12) (fun _ z => z.1) dL_law_589 lkL_141 caL_set rfl (wL_set a hx ho hS (hA.wr o b2l h')) ⟨by decide, by decide⟩ (Nat.le_of_ble_eq_true rfl) (fun v h2 q => ?_) (fun E h2 q => nomatch q.1)
  obtain ⟨q1, q2⟩ := q
  have q3 : v = some (si r.1) := Sum.inl.inj q1
  subst q3
  show gZ (LF b L xs) G (mLw nm hh) 60 Q 592 [some (sr (some b)), some (sr (some x)), some (sr (some m)), some (sr (some o)), some (si (nI i)), none, none] [si r.1] K N h2
  obtain ⟨m1, m2, m3, m4, m5, m6⟩ := hM h2 q2
  refine z_istore (pc := 592) (i := 5) [some (sr (some b)), some (sr (some x)), some (sr (some m)), some (sr (some o)), some (si (nI i)), some (si r.1), none] dL_law_592 (show 5 < 7 by decide) rfl rfl ?_
  refine z_aload_n (pc := 594) (i := 2) dL_law_594 rfl rfl ?_
  refine y_arg (pc := 595) (i := i) 1 hb hL hi (by decide) rfl dL_law_595 dL_law_596 dL_law_598 dL_law_599 dL_law_600 rfl rfl ?_
  refine y_arg (pc := 601) (i := i) 2 hb hL hi (by decide) rfl dL_law_601 dL_law_602 dL_law_604 dL_law_605 dL_law_606 rfl rfl ?_
  refine y_nz (pc := 607) 614 615 dL_law_607 dL_law_610 dL_law_611 dL_law_614 rfl rfl rfl ?_
  refine z_room (k' := 0 + K) (n' := 0 + N) (by omega) (by omega) ?_
  refine y_V (pc := 615) (as := [si (xs (i + 1)), si (zb (xs (i + 2)))]) (st := []) (ci := 10) (N := mX11_set) (k := K) (n := N) (k1 := 0) (n1 := 0) dL_law_615 lkL_143 caX11_set cvX11_set rfl (by decide) rfl m1 (m2 (fun o9 h9 => o9 = .inl (some (si r.2.1)) ∧ h9 = M h2) ⟨rfl, rfl⟩) ⟨by decide, by decide⟩ (Nat.le_of_ble_eq_true rfl) (fun v h3 q => ?_) (fun E h3 q => nomatch q.1)
  obtain ⟨q1, rfl⟩ := q
  have q3 : v = some (si r.2.1) := Sum.inl.inj q1
  subst q3
  show gZ (LF b L xs) G (mLw nm hh) 60 Q 618 [some (sr (some b)), some (sr (some x)), some (sr (some m)), some (sr (some o)), some (si (nI i)), some (si r.1), none] [si r.2.1] K N (M h2)
  refine z_istore (pc := 618) (i := 6) [some (sr (some b)), some (sr (some x)), some (sr (some m)), some (sr (some o)), some (si (nI i)), some (si r.1), some (si r.2.1)] dL_law_618 (show 6 < 7 by decide) rfl rfl ?_
  refine z_aload_n (pc := 620) (i := 2) dL_law_620 rfl rfl ?_
  refine z_room (k' := 0 + K) (n' := 0 + N) (by omega) (by omega) ?_
  refine y_V (pc := 621) (as := []) (st := []) (ci := 10) (N := mX11_thrown) (k := K) (n := N) (k1 := 0) (n1 := 0) dL_law_621 lkL_123 caX11_thrown cvX11_thrown rfl (by decide) rfl m3 (m4 (fun o9 h9 => o9 = .inl (some (si r.1)) ∧ h9 = M h2) ⟨rfl, rfl⟩) ⟨by decide, by decide⟩ (Nat.le_of_ble_eq_true rfl) (fun v h3 q => ?_) (fun E h3 q => nomatch q.1)
  obtain ⟨q1, rfl⟩ := q
  have q3 : v = some (si r.1) := Sum.inl.inj q1
  subst q3
  show gZ (LF b L xs) G (mLw nm hh) 60 Q 624 [some (sr (some b)), some (sr (some x)), some (sr (some m)), some (sr (some o)), some (si (nI i)), some (si r.1), some (si r.2.1)] [si r.1] K N (M h2)
  refine z_iload (pc := 624) (i := 5) dL_law_624 rfl ?_
  refine z_icmp_eq (pc := 626) 631 dL_law_626 rfl (fun _ => ?_) (fun hc => absurd rfl hc)
  refine z_iload (pc := 631) (i := 5) dL_law_631 rfl ?_
  refine z_if_ne (pc := 633) 655 dL_law_633 rfl (fun hc => ?_) (fun hc => ?_)
  · refine z_goto (pc := 655) 2313 dL_law_655 rfl ?_
    exact z_less [some (sr (some b)), some (sr (some x)), some (sr (some m)), some (sr (some o)), some (si (nI i)), none, none] law_less (kk h2 q2)
  · refine z_aload_n (pc := 636) (i := 3) dL_law_636 rfl rfl ?_
    refine z_iconst (pc := 637) (v := 0) dL_law_637 rfl ?_
    refine z_lald (pc := 638) dL_law_638 (by rw [m5]) (by rw [m5]; exact in0) ?_
    have hv : hJ (M h2) o (0 : Int32).toNatClampNeg = b2l r.2.1 := (show hJ (M h2) o 0 = _ by rw [m6]; exact hA.out (by decide) hc q2)
    rw [hv]
    refine z_iload (pc := 639) (i := 6) dL_law_639 rfl ?_
    refine y_nzl (pc := 641) 648 649 dL_law_641 dL_law_644 dL_law_645 dL_law_648 rfl rfl rfl ?_
    refine z_lcmp (pc := 649) dL_law_649 ?_
    refine z_if_eq (pc := 650) 655 dL_law_650 rfl (fun _ => ?_) (fun hc9 => absurd (lg_self _) hc9)
    refine z_goto (pc := 655) 2313 dL_law_655 rfl ?_
    exact z_less [some (sr (some b)), some (sr (some x)), some (sr (some m)), some (sr (some o)), some (si (nI i)), none, none] law_less (kk h2 q2)
theorem dL_law_658 : decode cL_law 658 = .ok (.aload_n 1, 1) := by decide +kernel
theorem dL_law_659 : decode cL_law 659 = .ok (.aload_n 0, 1) := by decide +kernel
theorem dL_law_660 : decode cL_law 660 = .ok (.iload 4, 2) := by decide +kernel
theorem dL_law_662 : decode cL_law 662 = .ok (.iconst 1, 1) := by decide +kernel
theorem dL_law_663 : decode cL_law 663 = .ok (.iadd, 1) := by decide +kernel
theorem dL_law_664 : decode cL_law 664 = .ok (.iaload, 1) := by decide +kernel
theorem dL_law_665 : decode cL_law 665 = .ok (.aload_n 0, 1) := by decide +kernel
theorem dL_law_666 : decode cL_law 666 = .ok (.iload 4, 2) := by decide +kernel
theorem dL_law_668 : decode cL_law 668 = .ok (.iconst 2, 1) := by decide +kernel
theorem dL_law_669 : decode cL_law 669 = .ok (.iadd, 1) := by decide +kernel
theorem dL_law_670 : decode cL_law 670 = .ok (.iaload, 1) := by decide +kernel
theorem dL_law_671 : decode cL_law 671 = .ok (.aload_n 3, 1) := by decide +kernel
theorem dL_law_672 : decode cL_law 672 = .ok (.invokestatic 144, 3) := by decide +kernel
theorem dL_law_675 : decode cL_law 675 = .ok (.istore 5, 2) := by decide +kernel
theorem dL_law_677 : decode cL_law 677 = .ok (.aload_n 2, 1) := by decide +kernel
theorem dL_law_678 : decode cL_law 678 = .ok (.aload_n 0, 1) := by decide +kernel
theorem dL_law_679 : decode cL_law 679 = .ok (.iload 4, 2) := by decide +kernel
theorem dL_law_681 : decode cL_law 681 = .ok (.iconst 1, 1) := by decide +kernel
theorem dL_law_682 : decode cL_law 682 = .ok (.iadd, 1) := by decide +kernel
theorem dL_law_683 : decode cL_law 683 = .ok (.iaload, 1) := by decide +kernel
theorem dL_law_684 : decode cL_law 684 = .ok (.aload_n 0, 1) := by decide +kernel
theorem dL_law_685 : decode cL_law 685 = .ok (.iload 4, 2) := by decide +kernel
theorem dL_law_687 : decode cL_law 687 = .ok (.iconst 2, 1) := by decide +kernel
theorem dL_law_688 : decode cL_law 688 = .ok (.iadd, 1) := by decide +kernel
theorem dL_law_689 : decode cL_law 689 = .ok (.iaload, 1) := by decide +kernel
theorem dL_law_690 : decode cL_law 690 = .ok (.invokevirtual 147, 3) := by decide +kernel
theorem dL_law_693 : decode cL_law 693 = .ok (.istore 6, 2) := by decide +kernel
theorem dL_law_695 : decode cL_law 695 = .ok (.aload_n 2, 1) := by decide +kernel
theorem dL_law_696 : decode cL_law 696 = .ok (.invokevirtual 123, 3) := by decide +kernel
theorem dL_law_699 : decode cL_law 699 = .ok (.iload 5, 2) := by decide +kernel
theorem dL_law_701 : decode cL_law 701 = .ok (.if_icmp .eq 5, 3) := by decide +kernel
theorem dL_law_706 : decode cL_law 706 = .ok (.iload 5, 2) := by decide +kernel
theorem dL_law_708 : decode cL_law 708 = .ok (.ifCond .ne 15, 3) := by decide +kernel
theorem dL_law_711 : decode cL_law 711 = .ok (.aload_n 3, 1) := by decide +kernel
theorem dL_law_712 : decode cL_law 712 = .ok (.iconst 0, 1) := by decide +kernel
theorem dL_law_713 : decode cL_law 713 = .ok (.laload, 1) := by decide +kernel
theorem dL_law_714 : decode cL_law 714 = .ok (.iload 6, 2) := by decide +kernel
theorem dL_law_716 : decode cL_law 716 = .ok (.i2l, 1) := by decide +kernel
theorem dL_law_717 : decode cL_law 717 = .ok (.lcmp, 1) := by decide +kernel
theorem dL_law_718 : decode cL_law 718 = .ok (.ifCond .eq 5, 3) := by decide +kernel
theorem dL_law_723 : decode cL_law 723 = .ok (.goto 1590, 3) := by decide +kernel
theorem lkL_144 : Cond.methodLink RL 144 yL_setRule ∈ XW := xw 975 (by decide +kernel) rfl
theorem lkL_147 : Cond.methodLink RL 147 yX11_setRule ∈ XW := xw 1754 (by decide +kernel) rfl
theorem kL_setRule {nm : String} {hh : List (Nat × Nat × Nat × Nat)} {G : gG} {b L x m o i : Nat} {xs : Nat → Int32} {h h' : hp} {Q : hQ} {K N : Nat} {M : hp → hp} (a : Int32 ⊕ String) (r : aS) (hb : ¬ gb G ≤ b) (hL : L ≤ 2048) (hi : i + 4 ≤ L) (hx : (hT h x).1 = 10) (ho : hT h' o = (24, 1)) (hS : ∀ Q1 : hQ, Q1 (oA a) h' → gS G mX10_setRule 8 2 12 [sr (some x), si (xs (i + 1)), si (xs (i + 2))] h Q1) (hA : An [exI, exA] a r) (hM : ∀ h2, HH h' o i2l9 a h2 → MM G mX11_setRule 6 [si (xs (i + 1)), si (xs (i + 2))] m o r M h2) (kk : ∀ h2, HH h' o i2l9 a h2 → gZ (LF b L xs) G (mLw nm hh) 60 Q 2313 [some (sr (some b)), some (sr (some x)), some (sr (some m)), some (sr (some o)), some (si (nI i)), none, none] [] K N (M h2)) : gZ (LF b L xs) G (mLw nm hh) 60 Q 658 [some (sr (some b)), some (sr (some x)), some (sr (some m)), some (sr (some o)), some (si (nI i)), none, none] [] (2 + K) (12 + N) h := by
  refine z_aload_n (pc := 658) (i := 1) dL_law_658 rfl rfl ?_
  refine y_arg (pc := 659) (i := i) 1 hb hL hi (by decide) rfl dL_law_659 dL_law_660 dL_law_662 dL_law_663 dL_law_664 rfl rfl ?_
  refine y_arg (pc := 665) (i := i) 2 hb hL hi (by decide) rfl dL_law_665 dL_law_666 dL_law_668 dL_law_669 dL_law_670 rfl rfl ?_
  refine z_aload_n (pc := 671) (i := 3) dL_law_671 rfl rfl ?_
  refine y_X (pc := 672) (as := [sr (some x), si (xs (i + 1)), si (xs (i + 2)), sr (some o)]) (st := []) (N := mL_setRule) (k := K) (n := N) (k1 := 2) (n1 := 12) (fun _ z => z.1) dL_law_672 lkL_144 caL_setRule rfl (wL_setRule a hx ho hS (hA.wr o i2l9 h')) ⟨by decide, by decide⟩ (Nat.le_of_ble_eq_true rfl) (fun v h2 q => ?_) (fun E h2 q => nomatch q.1)
  obtain ⟨q1, q2⟩ := q
  have q3 : v = some (si r.1) := Sum.inl.inj q1
  subst q3
  show gZ (LF b L xs) G (mLw nm hh) 60 Q 675 [some (sr (some b)), some (sr (some x)), some (sr (some m)), some (sr (some o)), some (si (nI i)), none, none] [si r.1] K N h2
  obtain ⟨m1, m2, m3, m4, m5, m6⟩ := hM h2 q2
  refine z_istore (pc := 675) (i := 5) [some (sr (some b)), some (sr (some x)), some (sr (some m)), some (sr (some o)), some (si (nI i)), some (si r.1), none] dL_law_675 (show 5 < 7 by decide) rfl rfl ?_
  refine z_aload_n (pc := 677) (i := 2) dL_law_677 rfl rfl ?_
  refine y_arg (pc := 678) (i := i) 1 hb hL hi (by decide) rfl dL_law_678 dL_law_679 dL_law_681 dL_law_682 dL_law_683 rfl rfl ?_
  refine y_arg (pc := 684) (i := i) 2 hb hL hi (by decide) rfl dL_law_684 dL_law_685 dL_law_687 dL_law_688 dL_law_689 rfl rfl ?_
  refine z_room (k' := 0 + K) (n' := 0 + N) (by omega) (by omega) ?_
  refine y_V (pc := 690) (as := [si (xs (i + 1)), si (xs (i + 2))]) (st := []) (ci := 10) (N := mX11_setRule) (k := K) (n := N) (k1 := 0) (n1 := 0) dL_law_690 lkL_147 caX11_setRule cvX11_setRule rfl (by decide) rfl m1 (m2 (fun o9 h9 => o9 = .inl (some (si r.2.1)) ∧ h9 = M h2) ⟨rfl, rfl⟩) ⟨by decide, by decide⟩ (Nat.le_of_ble_eq_true rfl) (fun v h3 q => ?_) (fun E h3 q => nomatch q.1)
  obtain ⟨q1, rfl⟩ := q
  have q3 : v = some (si r.2.1) := Sum.inl.inj q1
  subst q3
  show gZ (LF b L xs) G (mLw nm hh) 60 Q 693 [some (sr (some b)), some (sr (some x)), some (sr (some m)), some (sr (some o)), some (si (nI i)), some (si r.1), none] [si r.2.1] K N (M h2)
  refine z_istore (pc := 693) (i := 6) [some (sr (some b)), some (sr (some x)), some (sr (some m)), some (sr (some o)), some (si (nI i)), some (si r.1), some (si r.2.1)] dL_law_693 (show 6 < 7 by decide) rfl rfl ?_
  refine z_aload_n (pc := 695) (i := 2) dL_law_695 rfl rfl ?_
  refine z_room (k' := 0 + K) (n' := 0 + N) (by omega) (by omega) ?_
  refine y_V (pc := 696) (as := []) (st := []) (ci := 10) (N := mX11_thrown) (k := K) (n := N) (k1 := 0) (n1 := 0) dL_law_696 lkL_123 caX11_thrown cvX11_thrown rfl (by decide) rfl m3 (m4 (fun o9 h9 => o9 = .inl (some (si r.1)) ∧ h9 = M h2) ⟨rfl, rfl⟩) ⟨by decide, by decide⟩ (Nat.le_of_ble_eq_true rfl) (fun v h3 q => ?_) (fun E h3 q => nomatch q.1)
  obtain ⟨q1, rfl⟩ := q
  have q3 : v = some (si r.1) := Sum.inl.inj q1
  subst q3
  show gZ (LF b L xs) G (mLw nm hh) 60 Q 699 [some (sr (some b)), some (sr (some x)), some (sr (some m)), some (sr (some o)), some (si (nI i)), some (si r.1), some (si r.2.1)] [si r.1] K N (M h2)
  refine z_iload (pc := 699) (i := 5) dL_law_699 rfl ?_
  refine z_icmp_eq (pc := 701) 706 dL_law_701 rfl (fun _ => ?_) (fun hc => absurd rfl hc)
  refine z_iload (pc := 706) (i := 5) dL_law_706 rfl ?_
  refine z_if_ne (pc := 708) 723 dL_law_708 rfl (fun hc => ?_) (fun hc => ?_)
  · refine z_goto (pc := 723) 2313 dL_law_723 rfl ?_
    exact z_less [some (sr (some b)), some (sr (some x)), some (sr (some m)), some (sr (some o)), some (si (nI i)), none, none] law_less (kk h2 q2)
  · refine z_aload_n (pc := 711) (i := 3) dL_law_711 rfl rfl ?_
    refine z_iconst (pc := 712) (v := 0) dL_law_712 rfl ?_
    refine z_lald (pc := 713) dL_law_713 (by rw [m5]) (by rw [m5]; exact in0) ?_
    have hv : hJ (M h2) o (0 : Int32).toNatClampNeg = i2l9 r.2.1 := (show hJ (M h2) o 0 = _ by rw [m6]; exact hA.out (by decide) hc q2)
    rw [hv]
    refine z_iload (pc := 714) (i := 6) dL_law_714 rfl ?_
    refine z_i2l (pc := 716) dL_law_716 ?_
    refine z_lcmp (pc := 717) dL_law_717 ?_
    refine z_if_eq (pc := 718) 723 dL_law_718 rfl (fun _ => ?_) (fun hc9 => absurd (lg_self _) hc9)
    refine z_goto (pc := 723) 2313 dL_law_723 rfl ?_
    exact z_less [some (sr (some b)), some (sr (some x)), some (sr (some m)), some (sr (some o)), some (si (nI i)), none, none] law_less (kk h2 q2)
theorem dL_law_726 : decode cL_law 726 = .ok (.aload_n 1, 1) := by decide +kernel
theorem dL_law_727 : decode cL_law 727 = .ok (.aload_n 0, 1) := by decide +kernel
theorem dL_law_728 : decode cL_law 728 = .ok (.iload 4, 2) := by decide +kernel
theorem dL_law_730 : decode cL_law 730 = .ok (.iconst 1, 1) := by decide +kernel
theorem dL_law_731 : decode cL_law 731 = .ok (.iadd, 1) := by decide +kernel
theorem dL_law_732 : decode cL_law 732 = .ok (.iaload, 1) := by decide +kernel
theorem dL_law_733 : decode cL_law 733 = .ok (.aload_n 0, 1) := by decide +kernel
theorem dL_law_734 : decode cL_law 734 = .ok (.iload 4, 2) := by decide +kernel
theorem dL_law_736 : decode cL_law 736 = .ok (.iconst 2, 1) := by decide +kernel
theorem dL_law_737 : decode cL_law 737 = .ok (.iadd, 1) := by decide +kernel
theorem dL_law_738 : decode cL_law 738 = .ok (.iaload, 1) := by decide +kernel
theorem dL_law_739 : decode cL_law 739 = .ok (.aload_n 3, 1) := by decide +kernel
theorem dL_law_740 : decode cL_law 740 = .ok (.invokestatic 148, 3) := by decide +kernel
theorem dL_law_743 : decode cL_law 743 = .ok (.istore 5, 2) := by decide +kernel
theorem dL_law_745 : decode cL_law 745 = .ok (.aload_n 2, 1) := by decide +kernel
theorem dL_law_746 : decode cL_law 746 = .ok (.aload_n 0, 1) := by decide +kernel
theorem dL_law_747 : decode cL_law 747 = .ok (.iload 4, 2) := by decide +kernel
theorem dL_law_749 : decode cL_law 749 = .ok (.iconst 1, 1) := by decide +kernel
theorem dL_law_750 : decode cL_law 750 = .ok (.iadd, 1) := by decide +kernel
theorem dL_law_751 : decode cL_law 751 = .ok (.iaload, 1) := by decide +kernel
theorem dL_law_752 : decode cL_law 752 = .ok (.aload_n 0, 1) := by decide +kernel
theorem dL_law_753 : decode cL_law 753 = .ok (.iload 4, 2) := by decide +kernel
theorem dL_law_755 : decode cL_law 755 = .ok (.iconst 2, 1) := by decide +kernel
theorem dL_law_756 : decode cL_law 756 = .ok (.iadd, 1) := by decide +kernel
theorem dL_law_757 : decode cL_law 757 = .ok (.iaload, 1) := by decide +kernel
theorem dL_law_758 : decode cL_law 758 = .ok (.invokevirtual 150, 3) := by decide +kernel
theorem dL_law_761 : decode cL_law 761 = .ok (.istore 6, 2) := by decide +kernel
theorem dL_law_763 : decode cL_law 763 = .ok (.aload_n 2, 1) := by decide +kernel
theorem dL_law_764 : decode cL_law 764 = .ok (.invokevirtual 123, 3) := by decide +kernel
theorem dL_law_767 : decode cL_law 767 = .ok (.iload 5, 2) := by decide +kernel
theorem dL_law_769 : decode cL_law 769 = .ok (.if_icmp .eq 5, 3) := by decide +kernel
theorem dL_law_774 : decode cL_law 774 = .ok (.iload 5, 2) := by decide +kernel
theorem dL_law_776 : decode cL_law 776 = .ok (.ifCond .ne 15, 3) := by decide +kernel
theorem dL_law_779 : decode cL_law 779 = .ok (.aload_n 3, 1) := by decide +kernel
theorem dL_law_780 : decode cL_law 780 = .ok (.iconst 0, 1) := by decide +kernel
theorem dL_law_781 : decode cL_law 781 = .ok (.laload, 1) := by decide +kernel
theorem dL_law_782 : decode cL_law 782 = .ok (.iload 6, 2) := by decide +kernel
theorem dL_law_784 : decode cL_law 784 = .ok (.i2l, 1) := by decide +kernel
theorem dL_law_785 : decode cL_law 785 = .ok (.lcmp, 1) := by decide +kernel
theorem dL_law_786 : decode cL_law 786 = .ok (.ifCond .eq 5, 3) := by decide +kernel
theorem dL_law_791 : decode cL_law 791 = .ok (.goto 1522, 3) := by decide +kernel
theorem lkL_148 : Cond.methodLink RL 148 yL_setManner ∈ XW := xw 983 (by decide +kernel) rfl
theorem lkL_150 : Cond.methodLink RL 150 yX11_setManner ∈ XW := xw 1758 (by decide +kernel) rfl
theorem kL_setManner {nm : String} {hh : List (Nat × Nat × Nat × Nat)} {G : gG} {b L x m o i : Nat} {xs : Nat → Int32} {h h' : hp} {Q : hQ} {K N : Nat} {M : hp → hp} (a : Int32 ⊕ String) (r : aS) (hb : ¬ gb G ≤ b) (hL : L ≤ 2048) (hi : i + 4 ≤ L) (hx : (hT h x).1 = 10) (ho : hT h' o = (24, 1)) (hS : ∀ Q1 : hQ, Q1 (oA a) h' → gS G mX10_setManner 7 2 12 [sr (some x), si (xs (i + 1)), si (xs (i + 2))] h Q1) (hA : An [exI, exA, exS] a r) (hM : ∀ h2, HH h' o i2l9 a h2 → MM G mX11_setManner 2 [si (xs (i + 1)), si (xs (i + 2))] m o r M h2) (kk : ∀ h2, HH h' o i2l9 a h2 → gZ (LF b L xs) G (mLw nm hh) 60 Q 2313 [some (sr (some b)), some (sr (some x)), some (sr (some m)), some (sr (some o)), some (si (nI i)), none, none] [] K N (M h2)) : gZ (LF b L xs) G (mLw nm hh) 60 Q 726 [some (sr (some b)), some (sr (some x)), some (sr (some m)), some (sr (some o)), some (si (nI i)), none, none] [] (2 + K) (12 + N) h := by
  refine z_aload_n (pc := 726) (i := 1) dL_law_726 rfl rfl ?_
  refine y_arg (pc := 727) (i := i) 1 hb hL hi (by decide) rfl dL_law_727 dL_law_728 dL_law_730 dL_law_731 dL_law_732 rfl rfl ?_
  refine y_arg (pc := 733) (i := i) 2 hb hL hi (by decide) rfl dL_law_733 dL_law_734 dL_law_736 dL_law_737 dL_law_738 rfl rfl ?_
  refine z_aload_n (pc := 739) (i := 3) dL_law_739 rfl rfl ?_
  refine y_X (pc := 740) (as := [sr (some x), si (xs (i + 1)), si (xs (i + 2)), sr (some o)]) (st := []) (N := mL_setManner) (k := K) (n := N) (k1 := 2) (n1 := 12) (fun _ z => z.1) dL_law_740 lkL_148 caL_setManner rfl (wL_setManner a hx ho hS (hA.wr o i2l9 h')) ⟨by decide, by decide⟩ (Nat.le_of_ble_eq_true rfl) (fun v h2 q => ?_) (fun E h2 q => nomatch q.1)
  obtain ⟨q1, q2⟩ := q
  have q3 : v = some (si r.1) := Sum.inl.inj q1
  subst q3
  show gZ (LF b L xs) G (mLw nm hh) 60 Q 743 [some (sr (some b)), some (sr (some x)), some (sr (some m)), some (sr (some o)), some (si (nI i)), none, none] [si r.1] K N h2
  obtain ⟨m1, m2, m3, m4, m5, m6⟩ := hM h2 q2
  refine z_istore (pc := 743) (i := 5) [some (sr (some b)), some (sr (some x)), some (sr (some m)), some (sr (some o)), some (si (nI i)), some (si r.1), none] dL_law_743 (show 5 < 7 by decide) rfl rfl ?_
  refine z_aload_n (pc := 745) (i := 2) dL_law_745 rfl rfl ?_
  refine y_arg (pc := 746) (i := i) 1 hb hL hi (by decide) rfl dL_law_746 dL_law_747 dL_law_749 dL_law_750 dL_law_751 rfl rfl ?_
  refine y_arg (pc := 752) (i := i) 2 hb hL hi (by decide) rfl dL_law_752 dL_law_753 dL_law_755 dL_law_756 dL_law_757 rfl rfl ?_
  refine z_room (k' := 0 + K) (n' := 0 + N) (by omega) (by omega) ?_
  refine y_V (pc := 758) (as := [si (xs (i + 1)), si (xs (i + 2))]) (st := []) (ci := 10) (N := mX11_setManner) (k := K) (n := N) (k1 := 0) (n1 := 0) dL_law_758 lkL_150 caX11_setManner cvX11_setManner rfl (by decide) rfl m1 (m2 (fun o9 h9 => o9 = .inl (some (si r.2.1)) ∧ h9 = M h2) ⟨rfl, rfl⟩) ⟨by decide, by decide⟩ (Nat.le_of_ble_eq_true rfl) (fun v h3 q => ?_) (fun E h3 q => nomatch q.1)
  obtain ⟨q1, rfl⟩ := q
  have q3 : v = some (si r.2.1) := Sum.inl.inj q1
  subst q3
  show gZ (LF b L xs) G (mLw nm hh) 60 Q 761 [some (sr (some b)), some (sr (some x)), some (sr (some m)), some (sr (some o)), some (si (nI i)), some (si r.1), none] [si r.2.1] K N (M h2)
  refine z_istore (pc := 761) (i := 6) [some (sr (some b)), some (sr (some x)), some (sr (some m)), some (sr (some o)), some (si (nI i)), some (si r.1), some (si r.2.1)] dL_law_761 (show 6 < 7 by decide) rfl rfl ?_
  refine z_aload_n (pc := 763) (i := 2) dL_law_763 rfl rfl ?_
  refine z_room (k' := 0 + K) (n' := 0 + N) (by omega) (by omega) ?_
  refine y_V (pc := 764) (as := []) (st := []) (ci := 10) (N := mX11_thrown) (k := K) (n := N) (k1 := 0) (n1 := 0) dL_law_764 lkL_123 caX11_thrown cvX11_thrown rfl (by decide) rfl m3 (m4 (fun o9 h9 => o9 = .inl (some (si r.1)) ∧ h9 = M h2) ⟨rfl, rfl⟩) ⟨by decide, by decide⟩ (Nat.le_of_ble_eq_true rfl) (fun v h3 q => ?_) (fun E h3 q => nomatch q.1)
  obtain ⟨q1, rfl⟩ := q
  have q3 : v = some (si r.1) := Sum.inl.inj q1
  subst q3
  show gZ (LF b L xs) G (mLw nm hh) 60 Q 767 [some (sr (some b)), some (sr (some x)), some (sr (some m)), some (sr (some o)), some (si (nI i)), some (si r.1), some (si r.2.1)] [si r.1] K N (M h2)
  refine z_iload (pc := 767) (i := 5) dL_law_767 rfl ?_
  refine z_icmp_eq (pc := 769) 774 dL_law_769 rfl (fun _ => ?_) (fun hc => absurd rfl hc)
  refine z_iload (pc := 774) (i := 5) dL_law_774 rfl ?_
  refine z_if_ne (pc := 776) 791 dL_law_776 rfl (fun hc => ?_) (fun hc => ?_)
  · refine z_goto (pc := 791) 2313 dL_law_791 rfl ?_
    exact z_less [some (sr (some b)), some (sr (some x)), some (sr (some m)), some (sr (some o)), some (si (nI i)), none, none] law_less (kk h2 q2)
  · refine z_aload_n (pc := 779) (i := 3) dL_law_779 rfl rfl ?_
    refine z_iconst (pc := 780) (v := 0) dL_law_780 rfl ?_
    refine z_lald (pc := 781) dL_law_781 (by rw [m5]) (by rw [m5]; exact in0) ?_
    have hv : hJ (M h2) o (0 : Int32).toNatClampNeg = i2l9 r.2.1 := (show hJ (M h2) o 0 = _ by rw [m6]; exact hA.out (by decide) hc q2)
    rw [hv]
    refine z_iload (pc := 782) (i := 6) dL_law_782 rfl ?_
    refine z_i2l (pc := 784) dL_law_784 ?_
    refine z_lcmp (pc := 785) dL_law_785 ?_
    refine z_if_eq (pc := 786) 791 dL_law_786 rfl (fun _ => ?_) (fun hc9 => absurd (lg_self _) hc9)
    refine z_goto (pc := 791) 2313 dL_law_791 rfl ?_
    exact z_less [some (sr (some b)), some (sr (some x)), some (sr (some m)), some (sr (some o)), some (si (nI i)), none, none] law_less (kk h2 q2)
theorem dL_law_794 : decode cL_law 794 = .ok (.aload_n 1, 1) := by decide +kernel
theorem dL_law_795 : decode cL_law 795 = .ok (.invokevirtual 151, 3) := by decide +kernel
theorem dL_law_798 : decode cL_law 798 = .ok (.aload_n 2, 1) := by decide +kernel
theorem dL_law_799 : decode cL_law 799 = .ok (.invokevirtual 154, 3) := by decide +kernel
theorem dL_law_802 : decode cL_law 802 = .ok (.if_icmp .eq 1511, 3) := by decide +kernel
theorem lkL_151 : Cond.methodLink RL 151 yX10_elements ∈ XW := xw 538 (by decide +kernel) rfl
theorem lkL_154 : Cond.methodLink RL 154 yX11_elements ∈ XW := xw 1762 (by decide +kernel) rfl
theorem kL_elements {nm : String} {hh : List (Nat × Nat × Nat × Nat)} {G : gG} {b L x m o i : Nat} {xs : Nat → Int32} {h h2 : hp} {Q : hQ} {K N : Nat} (v : Int32) (hx : (hT h x).1 = 10) (hS : ∀ Q1 : hQ, Q1 (.inl (some (si v))) h → gS G mX10_elements 0 0 0 [sr (some x)] h Q1) (hm : (hT h m).1 = 11) (hM : ∀ Q1 : hQ, Q1 (.inl (some (si v))) h2 → gS G mX11_elements 0 0 0 [sr (some m)] h Q1) (kk : gZ (LF b L xs) G (mLw nm hh) 60 Q 2313 [some (sr (some b)), some (sr (some x)), some (sr (some m)), some (sr (some o)), some (si (nI i)), none, none] [] K N h2) : gZ (LF b L xs) G (mLw nm hh) 60 Q 794 [some (sr (some b)), some (sr (some x)), some (sr (some m)), some (sr (some o)), some (si (nI i)), none, none] [] K N h := by
  refine z_aload_n (pc := 794) (i := 1) dL_law_794 rfl rfl ?_
  refine z_room (k' := 0 + K) (n' := 0 + N) (by omega) (by omega) ?_
  refine y_V (pc := 795) (as := []) (st := []) (ci := 9) (N := mX10_elements) (k := K) (n := N) (k1 := 0) (n1 := 0) dL_law_795 lkL_151 caX10_elements cvX10_elements rfl (by decide) rfl hx (hS (fun o9 h9 => o9 = .inl (some (si v)) ∧ h9 = h) ⟨rfl, rfl⟩) ⟨by decide, by decide⟩ (Nat.le_of_ble_eq_true rfl) (fun v9 h3 q => ?_) (fun E h3 q => nomatch q.1)
  obtain ⟨q1, rfl⟩ := q
  have q3 : v9 = some (si v) := Sum.inl.inj q1
  subst q3
  show gZ (LF b L xs) G (mLw nm hh) 60 Q 798 [some (sr (some b)), some (sr (some x)), some (sr (some m)), some (sr (some o)), some (si (nI i)), none, none] [si v] K N h3
  refine z_aload_n (pc := 798) (i := 2) dL_law_798 rfl rfl ?_
  refine z_room (k' := 0 + K) (n' := 0 + N) (by omega) (by omega) ?_
  refine y_V (pc := 799) (as := []) (st := [si v]) (ci := 10) (N := mX11_elements) (k := K) (n := N) (k1 := 0) (n1 := 0) dL_law_799 lkL_154 caX11_elements cvX11_elements rfl (by decide) rfl hm (hM (fun o9 h9 => o9 = .inl (some (si v)) ∧ h9 = h2) ⟨rfl, rfl⟩) ⟨by decide, by decide⟩ (Nat.le_of_ble_eq_true rfl) (fun v9 h4 q => ?_) (fun E h4 q => nomatch q.1)
  obtain ⟨q1, rfl⟩ := q
  have q3 : v9 = some (si v) := Sum.inl.inj q1
  subst q3
  show gZ (LF b L xs) G (mLw nm hh) 60 Q 802 [some (sr (some b)), some (sr (some x)), some (sr (some m)), some (sr (some o)), some (si (nI i)), none, none] [si v, si v] K N h4
  refine z_icmp_eq (pc := 802) 2313 dL_law_802 rfl (fun _ => ?_) (fun hc => absurd rfl hc)
  exact kk
