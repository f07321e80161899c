/-! ===== cases of the law ===== -/
theorem dL_law_1710 : decode cL_law 1710 = .ok (.aload_n 1, 1) := by decide +kernel
theorem dL_law_1711 : decode cL_law 1711 = .ok (.aload_n 0, 1) := by decide +kernel
theorem dL_law_1712 : decode cL_law 1712 = .ok (.iload 4, 2) := by decide +kernel
theorem dL_law_1714 : decode cL_law 1714 = .ok (.iconst 1, 1) := by decide +kernel
theorem dL_law_1715 : decode cL_law 1715 = .ok (.iadd, 1) := by decide +kernel
theorem dL_law_1716 : decode cL_law 1716 = .ok (.iaload, 1) := by decide +kernel
theorem dL_law_1717 : decode cL_law 1717 = .ok (.aload_n 3, 1) := by decide +kernel
theorem dL_law_1718 : decode cL_law 1718 = .ok (.invokestatic 204, 3) := by decide +kernel
theorem dL_law_1721 : decode cL_law 1721 = .ok (.istore 5, 2) := by decide +kernel
theorem dL_law_1723 : decode cL_law 1723 = .ok (.aload_n 2, 1) := by decide +kernel
theorem dL_law_1724 : decode cL_law 1724 = .ok (.aload_n 0, 1) := by decide +kernel
theorem dL_law_1725 : decode cL_law 1725 = .ok (.iload 4, 2) := by decide +kernel
theorem dL_law_1727 : decode cL_law 1727 = .ok (.iconst 1, 1) := by decide +kernel
theorem dL_law_1728 : decode cL_law 1728 = .ok (.iadd, 1) := by decide +kernel
theorem dL_law_1729 : decode cL_law 1729 = .ok (.iaload, 1) := by decide +kernel
theorem dL_law_1730 : decode cL_law 1730 = .ok (.invokevirtual 206, 3) := by decide +kernel
theorem dL_law_1733 : decode cL_law 1733 = .ok (.istore 6, 2) := by decide +kernel
theorem dL_law_1735 : decode cL_law 1735 = .ok (.aload_n 2, 1) := by decide +kernel
theorem dL_law_1736 : decode cL_law 1736 = .ok (.invokevirtual 123, 3) := by decide +kernel
theorem dL_law_1739 : decode cL_law 1739 = .ok (.iload 5, 2) := by decide +kernel
theorem dL_law_1741 : decode cL_law 1741 = .ok (.if_icmp .eq 5, 3) := by decide +kernel
theorem dL_law_1746 : decode cL_law 1746 = .ok (.iload 5, 2) := by decide +kernel
theorem dL_law_1748 : decode cL_law 1748 = .ok (.ifCond .ne 15, 3) := by decide +kernel
theorem dL_law_1751 : decode cL_law 1751 = .ok (.aload_n 3, 1) := by decide +kernel
theorem dL_law_1752 : decode cL_law 1752 = .ok (.iconst 0, 1) := by decide +kernel
theorem dL_law_1753 : decode cL_law 1753 = .ok (.laload, 1) := by decide +kernel
theorem dL_law_1754 : decode cL_law 1754 = .ok (.iload 6, 2) := by decide +kernel
theorem dL_law_1756 : decode cL_law 1756 = .ok (.i2l, 1) := by decide +kernel
theorem dL_law_1757 : decode cL_law 1757 = .ok (.lcmp, 1) := by decide +kernel
theorem dL_law_1758 : decode cL_law 1758 = .ok (.ifCond .eq 5, 3) := by decide +kernel
theorem dL_law_1763 : decode cL_law 1763 = .ok (.goto 550, 3) := by decide +kernel
theorem lkL_204 : Cond.methodLink RL 204 yL_chord ∈ XW := xw 1278 (by decide +kernel) rfl
theorem lkL_206 : Cond.methodLink RL 206 yX11_chord ∈ XW := xw 1934 (by decide +kernel) rfl
theorem kL_chord {nm : String} {hh : List (Nat × Nat × Nat × Nat)} {G : gG} {b L x m o i : Nat} {xs : Nat → Int32} {h h' : hp} {Q : hQ} {K N : Nat} {M : hp → hp} (a : Int32 ⊕ String) (r : aS) (hb : ¬ gb G ≤ b) (hL : L ≤ 2048) (hi : i + 4 ≤ L) (hx : (hT h x).1 = 10) (ho : hT h' o = (24, 1)) (hS : ∀ Q1 : hQ, Q1 (oA a) h' → gS G mX10_chord 9 1 6 [sr (some x), si (xs (i + 1))] h Q1) (hA : An [exA, exS] a r) (hM : ∀ h2, HH h' o i2l9 a h2 → MM G mX11_chord 10 [si (xs (i + 1))] m o r M h2) (kk : ∀ h2, HH h' o i2l9 a h2 → gZ (LF b L xs) G (mLw nm hh) 60 Q 2313 [some (sr (some b)), some (sr (some x)), some (sr (some m)), some (sr (some o)), some (si (nI i)), none, none] [] K N (M h2)) : gZ (LF b L xs) G (mLw nm hh) 60 Q 1710 [some (sr (some b)), some (sr (some x)), some (sr (some m)), some (sr (some o)), some (si (nI i)), none, none] [] (1 + K) (6 + N) h := by
  refine z_aload_n (pc := 1710) (i := 1) dL_law_1710 rfl rfl ?_
  refine y_arg (pc := 1711) (i := i) 1 hb hL hi (by decide) rfl dL_law_1711 dL_law_1712 dL_law_1714 dL_law_1715 dL_law_1716 rfl rfl ?_
  refine z_aload_n (pc := 1717) (i := 3) dL_law_1717 rfl rfl ?_
  refine y_X (pc := 1718) (as := [sr (some x), si (xs (i + 1)), sr (some o)]) (st := []) (N := mL_chord) (k := K) (n := N) (k1 := 1) (n1 := 6) (fun _ z => z.1) dL_law_1718 lkL_204 caL_chord rfl (wL_chord a hx ho hS (hA.wr o i2l9 h')) ⟨by decide, by decide⟩ (Nat.le_of_ble_eq_true rfl) (fun v h2 q => ?_) (fun E h2 q => nomatch q.1)
  obtain ⟨q1, q2⟩ := q
  have q3 : v = some (si r.1) := Sum.inl.inj q1
  subst q3
  show gZ (LF b L xs) G (mLw nm hh) 60 Q 1721 [some (sr (some b)), some (sr (some x)), some (sr (some m)), some (sr (some o)), some (si (nI i)), none, none] [si r.1] K N h2
  obtain ⟨m1, m2, m3, m4, m5, m6⟩ := hM h2 q2
  refine z_istore (pc := 1721) (i := 5) [some (sr (some b)), some (sr (some x)), some (sr (some m)), some (sr (some o)), some (si (nI i)), some (si r.1), none] dL_law_1721 (show 5 < 7 by decide) rfl rfl ?_
  refine z_aload_n (pc := 1723) (i := 2) dL_law_1723 rfl rfl ?_
  refine y_arg (pc := 1724) (i := i) 1 hb hL hi (by decide) rfl dL_law_1724 dL_law_1725 dL_law_1727 dL_law_1728 dL_law_1729 rfl rfl ?_
  refine z_room (k' := 0 + K) (n' := 0 + N) (by omega) (by omega) ?_
  refine y_V (pc := 1730) (as := [si (xs (i + 1))]) (st := []) (ci := 10) (N := mX11_chord) (k := K) (n := N) (k1 := 0) (n1 := 0) dL_law_1730 lkL_206 caX11_chord cvX11_chord rfl (by decide) rfl m1 (m2 (fun o9 h9 => o9 = .inl (some (si r.2.1)) ∧ h9 = M h2) ⟨rfl, rfl⟩) ⟨by decide, by decide⟩ (Nat.le_of_ble_eq_true rfl) (fun v h3 q => ?_) (fun E h3 q => nomatch q.1)
  obtain ⟨q1, rfl⟩ := q
  have q3 : v = some (si r.2.1) := Sum.inl.inj q1
  subst q3
  show gZ (LF b L xs) G (mLw nm hh) 60 Q 1733 [some (sr (some b)), some (sr (some x)), some (sr (some m)), some (sr (some o)), some (si (nI i)), some (si r.1), none] [si r.2.1] K N (M h2)
  refine z_istore (pc := 1733) (i := 6) [some (sr (some b)), some (sr (some x)), some (sr (some m)), some (sr (some o)), some (si (nI i)), some (si r.1), some (si r.2.1)] dL_law_1733 (show 6 < 7 by decide) rfl rfl ?_
  refine z_aload_n (pc := 1735) (i := 2) dL_law_1735 rfl rfl ?_
  refine z_room (k' := 0 + K) (n' := 0 + N) (by omega) (by omega) ?_
  refine y_V (pc := 1736) (as := []) (st := []) (ci := 10) (N := mX11_thrown) (k := K) (n := N) (k1 := 0) (n1 := 0) dL_law_1736 lkL_123 caX11_thrown cvX11_thrown rfl (by decide) rfl m3 (m4 (fun o9 h9 => o9 = .inl (some (si r.1)) ∧ h9 = M h2) ⟨rfl, rfl⟩) ⟨by decide, by decide⟩ (Nat.le_of_ble_eq_true rfl) (fun v h3 q => ?_) (fun E h3 q => nomatch q.1)
  obtain ⟨q1, rfl⟩ := q
  have q3 : v = some (si r.1) := Sum.inl.inj q1
  subst q3
  show gZ (LF b L xs) G (mLw nm hh) 60 Q 1739 [some (sr (some b)), some (sr (some x)), some (sr (some m)), some (sr (some o)), some (si (nI i)), some (si r.1), some (si r.2.1)] [si r.1] K N (M h2)
  refine z_iload (pc := 1739) (i := 5) dL_law_1739 rfl ?_
  refine z_icmp_eq (pc := 1741) 1746 dL_law_1741 rfl (fun _ => ?_) (fun hc => absurd rfl hc)
  refine z_iload (pc := 1746) (i := 5) dL_law_1746 rfl ?_
  refine z_if_ne (pc := 1748) 1763 dL_law_1748 rfl (fun hc => ?_) (fun hc => ?_)
  · refine z_goto (pc := 1763) 2313 dL_law_1763 rfl ?_
    exact z_less [some (sr (some b)), some (sr (some x)), some (sr (some m)), some (sr (some o)), some (si (nI i)), none, none] law_less (kk h2 q2)
  · refine z_aload_n (pc := 1751) (i := 3) dL_law_1751 rfl rfl ?_
    refine z_iconst (pc := 1752) (v := 0) dL_law_1752 rfl ?_
    refine z_lald (pc := 1753) dL_law_1753 (by rw [m5]) (by rw [m5]; exact in0) ?_
    have hv : hJ (M h2) o (0 : Int32).toNatClampNeg = i2l9 r.2.1 := (show hJ (M h2) o 0 = _ by rw [m6]; exact hA.out (by decide) hc q2)
    rw [hv]
    refine z_iload (pc := 1754) (i := 6) dL_law_1754 rfl ?_
    refine z_i2l (pc := 1756) dL_law_1756 ?_
    refine z_lcmp (pc := 1757) dL_law_1757 ?_
    refine z_if_eq (pc := 1758) 1763 dL_law_1758 rfl (fun _ => ?_) (fun hc9 => absurd (lg_self _) hc9)
    refine z_goto (pc := 1763) 2313 dL_law_1763 rfl ?_
    exact z_less [some (sr (some b)), some (sr (some x)), some (sr (some m)), some (sr (some o)), some (si (nI i)), none, none] law_less (kk h2 q2)
theorem dL_law_1766 : decode cL_law 1766 = .ok (.aload_n 1, 1) := by decide +kernel
theorem dL_law_1767 : decode cL_law 1767 = .ok (.invokevirtual 207, 3) := by decide +kernel
theorem dL_law_1770 : decode cL_law 1770 = .ok (.aload_n 2, 1) := by decide +kernel
theorem dL_law_1771 : decode cL_law 1771 = .ok (.invokevirtual 210, 3) := by decide +kernel
theorem dL_law_1774 : decode cL_law 1774 = .ok (.if_icmp .eq 539, 3) := by decide +kernel
theorem lkL_207 : Cond.methodLink RL 207 yX10_cursor ∈ XW := xw 546 (by decide +kernel) rfl
theorem lkL_210 : Cond.methodLink RL 210 yX11_cursor ∈ XW := xw 1938 (by decide +kernel) rfl
theorem kL_cursor {nm : String} {hh : List (Nat × Nat × Nat × Nat)} {G : gG} {b L x m o i : Nat} {xs : Nat → Int32} {h h2 : hp} {Q : hQ} {K N : Nat} (v : Int32) (hx : (hT h x).1 = 10) (hS : ∀ Q1 : hQ, Q1 (.inl (some (si v))) h → gS G mX10_cursor 0 0 0 [sr (some x)] h Q1) (hm : (hT h m).1 = 11) (hM : ∀ Q1 : hQ, Q1 (.inl (some (si v))) h2 → gS G mX11_cursor 0 0 0 [sr (some m)] h Q1) (kk : gZ (LF b L xs) G (mLw nm hh) 60 Q 2313 [some (sr (some b)), some (sr (some x)), some (sr (some m)), some (sr (some o)), some (si (nI i)), none, none] [] K N h2) : gZ (LF b L xs) G (mLw nm hh) 60 Q 1766 [some (sr (some b)), some (sr (some x)), some (sr (some m)), some (sr (some o)), some (si (nI i)), none, none] [] K N h := by
  refine z_aload_n (pc := 1766) (i := 1) dL_law_1766 rfl rfl ?_
  refine z_room (k' := 0 + K) (n' := 0 + N) (by omega) (by omega) ?_
  refine y_V (pc := 1767) (as := []) (st := []) (ci := 9) (N := mX10_cursor) (k := K) (n := N) (k1 := 0) (n1 := 0) dL_law_1767 lkL_207 caX10_cursor cvX10_cursor rfl (by decide) rfl hx (hS (fun o9 h9 => o9 = .inl (some (si v)) ∧ h9 = h) ⟨rfl, rfl⟩) ⟨by decide, by decide⟩ (Nat.le_of_ble_eq_true rfl) (fun v9 h3 q => ?_) (fun E h3 q => nomatch q.1)
  obtain ⟨q1, rfl⟩ := q
  have q3 : v9 = some (si v) := Sum.inl.inj q1
  subst q3
  show gZ (LF b L xs) G (mLw nm hh) 60 Q 1770 [some (sr (some b)), some (sr (some x)), some (sr (some m)), some (sr (some o)), some (si (nI i)), none, none] [si v] K N h3
  refine z_aload_n (pc := 1770) (i := 2) dL_law_1770 rfl rfl ?_
  refine z_room (k' := 0 + K) (n' := 0 + N) (by omega) (by omega) ?_
  refine y_V (pc := 1771) (as := []) (st := [si v]) (ci := 10) (N := mX11_cursor) (k := K) (n := N) (k1 := 0) (n1 := 0) dL_law_1771 lkL_210 caX11_cursor cvX11_cursor rfl (by decide) rfl hm (hM (fun o9 h9 => o9 = .inl (some (si v)) ∧ h9 = h2) ⟨rfl, rfl⟩) ⟨by decide, by decide⟩ (Nat.le_of_ble_eq_true rfl) (fun v9 h4 q => ?_) (fun E h4 q => nomatch q.1)
  obtain ⟨q1, rfl⟩ := q
  have q3 : v9 = some (si v) := Sum.inl.inj q1
  subst q3
  show gZ (LF b L xs) G (mLw nm hh) 60 Q 1774 [some (sr (some b)), some (sr (some x)), some (sr (some m)), some (sr (some o)), some (si (nI i)), none, none] [si v, si v] K N h4
  refine z_icmp_eq (pc := 1774) 2313 dL_law_1774 rfl (fun _ => ?_) (fun hc => absurd rfl hc)
  exact kk
theorem dL_law_1779 : decode cL_law 1779 = .ok (.aload_n 1, 1) := by decide +kernel
theorem dL_law_1780 : decode cL_law 1780 = .ok (.invokevirtual 211, 3) := by decide +kernel
theorem dL_law_1783 : decode cL_law 1783 = .ok (.aload_n 2, 1) := by decide +kernel
theorem dL_law_1784 : decode cL_law 1784 = .ok (.invokevirtual 214, 3) := by decide +kernel
theorem dL_law_1787 : decode cL_law 1787 = .ok (.if_icmp .eq 526, 3) := by decide +kernel
theorem lkL_211 : Cond.methodLink RL 211 yX10_focus ∈ XW := xw 550 (by decide +kernel) rfl
theorem lkL_214 : Cond.methodLink RL 214 yX11_focus ∈ XW := xw 1942 (by decide +kernel) rfl
theorem kL_focus {nm : String} {hh : List (Nat × Nat × Nat × Nat)} {G : gG} {b L x m o i : Nat} {xs : Nat → Int32} {h h2 : hp} {Q : hQ} {K N : Nat} (v : Int32) (hx : (hT h x).1 = 10) (hS : ∀ Q1 : hQ, Q1 (.inl (some (si v))) h → gS G mX10_focus 0 0 0 [sr (some x)] h Q1) (hm : (hT h m).1 = 11) (hM : ∀ Q1 : hQ, Q1 (.inl (some (si v))) h2 → gS G mX11_focus 0 0 0 [sr (some m)] h Q1) (kk : gZ (LF b L xs) G (mLw nm hh) 60 Q 2313 [some (sr (some b)), some (sr (some x)), some (sr (some m)), some (sr (some o)), some (si (nI i)), none, none] [] K N h2) : gZ (LF b L xs) G (mLw nm hh) 60 Q 1779 [some (sr (some b)), some (sr (some x)), some (sr (some m)), some (sr (some o)), some (si (nI i)), none, none] [] K N h := by
  refine z_aload_n (pc := 1779) (i := 1) dL_law_1779 rfl rfl ?_
  refine z_room (k' := 0 + K) (n' := 0 + N) (by omega) (by omega) ?_
  refine y_V (pc := 1780) (as := []) (st := []) (ci := 9) (N := mX10_focus) (k := K) (n := N) (k1 := 0) (n1 := 0) dL_law_1780 lkL_211 caX10_focus cvX10_focus rfl (by decide) rfl hx (hS (fun o9 h9 => o9 = .inl (some (si v)) ∧ h9 = h) ⟨rfl, rfl⟩) ⟨by decide, by decide⟩ (Nat.le_of_ble_eq_true rfl) (fun v9 h3 q => ?_) (fun E h3 q => nomatch q.1)
  obtain ⟨q1, rfl⟩ := q
  have q3 : v9 = some (si v) := Sum.inl.inj q1
  subst q3
  show gZ (LF b L xs) G (mLw nm hh) 60 Q 1783 [some (sr (some b)), some (sr (some x)), some (sr (some m)), some (sr (some o)), some (si (nI i)), none, none] [si v] K N h3
  refine z_aload_n (pc := 1783) (i := 2) dL_law_1783 rfl rfl ?_
  refine z_room (k' := 0 + K) (n' := 0 + N) (by omega) (by omega) ?_
  refine y_V (pc := 1784) (as := []) (st := [si v]) (ci := 10) (N := mX11_focus) (k := K) (n := N) (k1 := 0) (n1 := 0) dL_law_1784 lkL_214 caX11_focus cvX11_focus rfl (by decide) rfl hm (hM (fun o9 h9 => o9 = .inl (some (si v)) ∧ h9 = h2) ⟨rfl, rfl⟩) ⟨by decide, by decide⟩ (Nat.le_of_ble_eq_true rfl) (fun v9 h4 q => ?_) (fun E h4 q => nomatch q.1)
  obtain ⟨q1, rfl⟩ := q
  have q3 : v9 = some (si v) := Sum.inl.inj q1
  subst q3
  show gZ (LF b L xs) G (mLw nm hh) 60 Q 1787 [some (sr (some b)), some (sr (some x)), some (sr (some m)), some (sr (some o)), some (si (nI i)), none, none] [si v, si v] K N h4
  refine z_icmp_eq (pc := 1787) 2313 dL_law_1787 rfl (fun _ => ?_) (fun hc => absurd rfl hc)
  exact kk
theorem dL_law_1792 : decode cL_law 1792 = .ok (.aload_n 1, 1) := by decide +kernel
theorem dL_law_1793 : decode cL_law 1793 = .ok (.invokevirtual 215, 3) := by decide +kernel
theorem dL_law_1796 : decode cL_law 1796 = .ok (.aload_n 2, 1) := by decide +kernel
theorem dL_law_1797 : decode cL_law 1797 = .ok (.invokevirtual 219, 3) := by decide +kernel
theorem dL_law_1800 : decode cL_law 1800 = .ok (.if_icmp .eq 513, 3) := by decide +kernel
theorem lkL_215 : Cond.methodLink RL 215 yX10_isTyping ∈ XW := xw 554 (by decide +kernel) rfl
theorem lkL_219 : Cond.methodLink RL 219 yX11_isTyping ∈ XW := xw 1946 (by decide +kernel) rfl
theorem kL_isTyping {nm : String} {hh : List (Nat × Nat × Nat × Nat)} {G : gG} {b L x m o i : Nat} {xs : Nat → Int32} {h h2 : hp} {Q : hQ} {K N : Nat} (v : Int32) (hx : (hT h x).1 = 10) (hS : ∀ Q1 : hQ, Q1 (.inl (some (si v))) h → gS G mX10_isTyping 0 0 0 [sr (some x)] h Q1) (hm : (hT h m).1 = 11) (hM : ∀ Q1 : hQ, Q1 (.inl (some (si v))) h2 → gS G mX11_isTyping 0 0 0 [sr (some m)] h Q1) (kk : gZ (LF b L xs) G (mLw nm hh) 60 Q 2313 [some (sr (some b)), some (sr (some x)), some (sr (some m)), some (sr (some o)), some (si (nI i)), none, none] [] K N h2) : gZ (LF b L xs) G (mLw nm hh) 60 Q 1792 [some (sr (some b)), some (sr (some x)), some (sr (some m)), some (sr (some o)), some (si (nI i)), none, none] [] K N h := by
  refine z_aload_n (pc := 1792) (i := 1) dL_law_1792 rfl rfl ?_
  refine z_room (k' := 0 + K) (n' := 0 + N) (by omega) (by omega) ?_
  refine y_V (pc := 1793) (as := []) (st := []) (ci := 9) (N := mX10_isTyping) (k := K) (n := N) (k1 := 0) (n1 := 0) dL_law_1793 lkL_215 caX10_isTyping cvX10_isTyping rfl (by decide) rfl hx (hS (fun o9 h9 => o9 = .inl (some (si v)) ∧ h9 = h) ⟨rfl, rfl⟩) ⟨by decide, by decide⟩ (Nat.le_of_ble_eq_true rfl) (fun v9 h3 q => ?_) (fun E h3 q => nomatch q.1)
  obtain ⟨q1, rfl⟩ := q
  have q3 : v9 = some (si v) := Sum.inl.inj q1
  subst q3
  show gZ (LF b L xs) G (mLw nm hh) 60 Q 1796 [some (sr (some b)), some (sr (some x)), some (sr (some m)), some (sr (some o)), some (si (nI i)), none, none] [si v] K N h3
  refine z_aload_n (pc := 1796) (i := 2) dL_law_1796 rfl rfl ?_
  refine z_room (k' := 0 + K) (n' := 0 + N) (by omega) (by omega) ?_
  refine y_V (pc := 1797) (as := []) (st := [si v]) (ci := 10) (N := mX11_isTyping) (k := K) (n := N) (k1 := 0) (n1 := 0) dL_law_1797 lkL_219 caX11_isTyping cvX11_isTyping rfl (by decide) rfl hm (hM (fun o9 h9 => o9 = .inl (some (si v)) ∧ h9 = h2) ⟨rfl, rfl⟩) ⟨by decide, by decide⟩ (Nat.le_of_ble_eq_true rfl) (fun v9 h4 q => ?_) (fun E h4 q => nomatch q.1)
  obtain ⟨q1, rfl⟩ := q
  have q3 : v9 = some (si v) := Sum.inl.inj q1
  subst q3
  show gZ (LF b L xs) G (mLw nm hh) 60 Q 1800 [some (sr (some b)), some (sr (some x)), some (sr (some m)), some (sr (some o)), some (si (nI i)), none, none] [si v, si v] K N h4
  refine z_icmp_eq (pc := 1800) 2313 dL_law_1800 rfl (fun _ => ?_) (fun hc => absurd rfl hc)
  exact kk
theorem dL_law_1805 : decode cL_law 1805 = .ok (.aload_n 1, 1) := by decide +kernel
theorem dL_law_1806 : decode cL_law 1806 = .ok (.invokevirtual 220, 3) := by decide +kernel
theorem dL_law_1809 : decode cL_law 1809 = .ok (.aload_n 2, 1) := by decide +kernel
theorem dL_law_1810 : decode cL_law 1810 = .ok (.invokevirtual 223, 3) := by decide +kernel
theorem dL_law_1813 : decode cL_law 1813 = .ok (.if_icmp .eq 500, 3) := by decide +kernel
theorem lkL_220 : Cond.methodLink RL 220 yX10_offset ∈ XW := xw 558 (by decide +kernel) rfl
theorem lkL_223 : Cond.methodLink RL 223 yX11_offset ∈ XW := xw 1950 (by decide +kernel) rfl
theorem kL_offset {nm : String} {hh : List (Nat × Nat × Nat × Nat)} {G : gG} {b L x m o i : Nat} {xs : Nat → Int32} {h h2 : hp} {Q : hQ} {K N : Nat} (v : Int32) (hx : (hT h x).1 = 10) (hS : ∀ Q1 : hQ, Q1 (.inl (some (si v))) h → gS G mX10_offset 0 0 0 [sr (some x)] h Q1) (hm : (hT h m).1 = 11) (hM : ∀ Q1 : hQ, Q1 (.inl (some (si v))) h2 → gS G mX11_offset 0 0 0 [sr (some m)] h Q1) (kk : gZ (LF b L xs) G (mLw nm hh) 60 Q 2313 [some (sr (some b)), some (sr (some x)), some (sr (some m)), some (sr (some o)), some (si (nI i)), none, none] [] K N h2) : gZ (LF b L xs) G (mLw nm hh) 60 Q 1805 [some (sr (some b)), some (sr (some x)), some (sr (some m)), some (sr (some o)), some (si (nI i)), none, none] [] K N h := by
  refine z_aload_n (pc := 1805) (i := 1) dL_law_1805 rfl rfl ?_
  refine z_room (k' := 0 + K) (n' := 0 + N) (by omega) (by omega) ?_
  refine y_V (pc := 1806) (as := []) (st := []) (ci := 9) (N := mX10_offset) (k := K) (n := N) (k1 := 0) (n1 := 0) dL_law_1806 lkL_220 caX10_offset cvX10_offset rfl (by decide) rfl hx (hS (fun o9 h9 => o9 = .inl (some (si v)) ∧ h9 = h) ⟨rfl, rfl⟩) ⟨by decide, by decide⟩ (Nat.le_of_ble_eq_true rfl) (fun v9 h3 q => ?_) (fun E h3 q => nomatch q.1)
  obtain ⟨q1, rfl⟩ := q
  have q3 : v9 = some (si v) := Sum.inl.inj q1
  subst q3
  show gZ (LF b L xs) G (mLw nm hh) 60 Q 1809 [some (sr (some b)), some (sr (some x)), some (sr (some m)), some (sr (some o)), some (si (nI i)), none, none] [si v] K N h3
  refine z_aload_n (pc := 1809) (i := 2) dL_law_1809 rfl rfl ?_
  refine z_room (k' := 0 + K) (n' := 0 + N) (by omega) (by omega) ?_
  refine y_V (pc := 1810) (as := []) (st := [si v]) (ci := 10) (N := mX11_offset) (k := K) (n := N) (k1 := 0) (n1 := 0) dL_law_1810 lkL_223 caX11_offset cvX11_offset rfl (by decide) rfl hm (hM (fun o9 h9 => o9 = .inl (some (si v)) ∧ h9 = h2) ⟨rfl, rfl⟩) ⟨by decide, by decide⟩ (Nat.le_of_ble_eq_true rfl) (fun v9 h4 q => ?_) (fun E h4 q => nomatch q.1)
  obtain ⟨q1, rfl⟩ := q
  have q3 : v9 = some (si v) := Sum.inl.inj q1
  subst q3
  show gZ (LF b L xs) G (mLw nm hh) 60 Q 1813 [some (sr (some b)), some (sr (some x)), some (sr (some m)), some (sr (some o)), some (si (nI i)), none, none] [si v, si v] K N h4
  refine z_icmp_eq (pc := 1813) 2313 dL_law_1813 rfl (fun _ => ?_) (fun hc => absurd rfl hc)
  exact kk
theorem dL_law_1818 : decode cL_law 1818 = .ok (.aload_n 1, 1) := by decide +kernel
theorem dL_law_1819 : decode cL_law 1819 = .ok (.invokevirtual 224, 3) := by decide +kernel
theorem dL_law_1822 : decode cL_law 1822 = .ok (.aload_n 2, 1) := by decide +kernel
theorem dL_law_1823 : decode cL_law 1823 = .ok (.invokevirtual 227, 3) := by decide +kernel
theorem dL_law_1826 : decode cL_law 1826 = .ok (.if_icmp .eq 487, 3) := by decide +kernel
theorem lkL_224 : Cond.methodLink RL 224 yX10_lineLength ∈ XW := xw 562 (by decide +kernel) rfl
theorem lkL_227 : Cond.methodLink RL 227 yX11_lineLength ∈ XW := xw 1954 (by decide +kernel) rfl
theorem kL_lineLength {nm : String} {hh : List (Nat × Nat × Nat × Nat)} {G : gG} {b L x m o i : Nat} {xs : Nat → Int32} {h h2 : hp} {Q : hQ} {K N : Nat} (v : Int32) (hx : (hT h x).1 = 10) (hS : ∀ Q1 : hQ, Q1 (.inl (some (si v))) h → gS G mX10_lineLength 1 0 0 [sr (some x)] h Q1) (hm : (hT h m).1 = 11) (hM : ∀ Q1 : hQ, Q1 (.inl (some (si v))) h2 → gS G mX11_lineLength 5 0 0 [sr (some m)] h Q1) (kk : gZ (LF b L xs) G (mLw nm hh) 60 Q 2313 [some (sr (some b)), some (sr (some x)), some (sr (some m)), some (sr (some o)), some (si (nI i)), none, none] [] K N h2) : gZ (LF b L xs) G (mLw nm hh) 60 Q 1818 [some (sr (some b)), some (sr (some x)), some (sr (some m)), some (sr (some o)), some (si (nI i)), none, none] [] K N h := by
  refine z_aload_n (pc := 1818) (i := 1) dL_law_1818 rfl rfl ?_
  refine z_room (k' := 0 + K) (n' := 0 + N) (by omega) (by omega) ?_
  refine y_V (pc := 1819) (as := []) (st := []) (ci := 9) (N := mX10_lineLength) (k := K) (n := N) (k1 := 0) (n1 := 0) dL_law_1819 lkL_224 caX10_lineLength cvX10_lineLength rfl (by decide) rfl hx (hS (fun o9 h9 => o9 = .inl (some (si v)) ∧ h9 = h) ⟨rfl, rfl⟩) ⟨by decide, by decide⟩ (Nat.le_of_ble_eq_true rfl) (fun v9 h3 q => ?_) (fun E h3 q => nomatch q.1)
  obtain ⟨q1, rfl⟩ := q
  have q3 : v9 = some (si v) := Sum.inl.inj q1
  subst q3
  show gZ (LF b L xs) G (mLw nm hh) 60 Q 1822 [some (sr (some b)), some (sr (some x)), some (sr (some m)), some (sr (some o)), some (si (nI i)), none, none] [si v] K N h3
  refine z_aload_n (pc := 1822) (i := 2) dL_law_1822 rfl rfl ?_
  refine z_room (k' := 0 + K) (n' := 0 + N) (by omega) (by omega) ?_
  refine y_V (pc := 1823) (as := []) (st := [si v]) (ci := 10) (N := mX11_lineLength) (k := K) (n := N) (k1 := 0) (n1 := 0) dL_law_1823 lkL_227 caX11_lineLength cvX11_lineLength rfl (by decide) rfl hm (hM (fun o9 h9 => o9 = .inl (some (si v)) ∧ h9 = h2) ⟨rfl, rfl⟩) ⟨by decide, by decide⟩ (Nat.le_of_ble_eq_true rfl) (fun v9 h4 q => ?_) (fun E h4 q => nomatch q.1)
  obtain ⟨q1, rfl⟩ := q
  have q3 : v9 = some (si v) := Sum.inl.inj q1
  subst q3
  show gZ (LF b L xs) G (mLw nm hh) 60 Q 1826 [some (sr (some b)), some (sr (some x)), some (sr (some m)), some (sr (some o)), some (si (nI i)), none, none] [si v, si v] K N h4
  refine z_icmp_eq (pc := 1826) 2313 dL_law_1826 rfl (fun _ => ?_) (fun hc => absurd rfl hc)
  exact kk
theorem dL_law_1831 : decode cL_law 1831 = .ok (.aload_n 1, 1) := by decide +kernel
theorem dL_law_1832 : decode cL_law 1832 = .ok (.aload_n 0, 1) := by decide +kernel
theorem dL_law_1833 : decode cL_law 1833 = .ok (.iload 4, 2) := by decide +kernel
theorem dL_law_1835 : decode cL_law 1835 = .ok (.iconst 1, 1) := by decide +kernel
theorem dL_law_1836 : decode cL_law 1836 = .ok (.iadd, 1) := by decide +kernel
theorem dL_law_1837 : decode cL_law 1837 = .ok (.iaload, 1) := by decide +kernel
theorem dL_law_1838 : decode cL_law 1838 = .ok (.aload_n 3, 1) := by decide +kernel
theorem dL_law_1839 : decode cL_law 1839 = .ok (.invokestatic 228, 3) := by decide +kernel
theorem dL_law_1842 : decode cL_law 1842 = .ok (.istore 5, 2) := by decide +kernel
theorem dL_law_1844 : decode cL_law 1844 = .ok (.aload_n 2, 1) := by decide +kernel
theorem dL_law_1845 : decode cL_law 1845 = .ok (.aload_n 0, 1) := by decide +kernel
theorem dL_law_1846 : decode cL_law 1846 = .ok (.iload 4, 2) := by decide +kernel
theorem dL_law_1848 : decode cL_law 1848 = .ok (.iconst 1, 1) := by decide +kernel
theorem dL_law_1849 : decode cL_law 1849 = .ok (.iadd, 1) := by decide +kernel
theorem dL_law_1850 : decode cL_law 1850 = .ok (.iaload, 1) := by decide +kernel
theorem dL_law_1851 : decode cL_law 1851 = .ok (.invokevirtual 230, 3) := by decide +kernel
theorem dL_law_1854 : decode cL_law 1854 = .ok (.istore 6, 2) := by decide +kernel
theorem dL_law_1856 : decode cL_law 1856 = .ok (.aload_n 2, 1) := by decide +kernel
theorem dL_law_1857 : decode cL_law 1857 = .ok (.invokevirtual 123, 3) := by decide +kernel
theorem dL_law_1860 : decode cL_law 1860 = .ok (.iload 5, 2) := by decide +kernel
theorem dL_law_1862 : decode cL_law 1862 = .ok (.if_icmp .eq 5, 3) := by decide +kernel
theorem dL_law_1867 : decode cL_law 1867 = .ok (.iload 5, 2) := by decide +kernel
theorem dL_law_1869 : decode cL_law 1869 = .ok (.ifCond .ne 15, 3) := by decide +kernel
theorem dL_law_1872 : decode cL_law 1872 = .ok (.aload_n 3, 1) := by decide +kernel
theorem dL_law_1873 : decode cL_law 1873 = .ok (.iconst 0, 1) := by decide +kernel
theorem dL_law_1874 : decode cL_law 1874 = .ok (.laload, 1) := by decide +kernel
theorem dL_law_1875 : decode cL_law 1875 = .ok (.iload 6, 2) := by decide +kernel
theorem dL_law_1877 : decode cL_law 1877 = .ok (.i2l, 1) := by decide +kernel
theorem dL_law_1878 : decode cL_law 1878 = .ok (.lcmp, 1) := by decide +kernel
theorem dL_law_1879 : decode cL_law 1879 = .ok (.ifCond .eq 5, 3) := by decide +kernel
theorem dL_law_1884 : decode cL_law 1884 = .ok (.goto 429, 3) := by decide +kernel
theorem lkL_228 : Cond.methodLink RL 228 yL_pin ∈ XW := xw 1287 (by decide +kernel) rfl
theorem lkL_230 : Cond.methodLink RL 230 yX11_pin ∈ XW := xw 1958 (by decide +kernel) rfl
theorem kL_pin {nm : String} {hh : List (Nat × Nat × Nat × Nat)} {G : gG} {b L x m o i : Nat} {xs : Nat → Int32} {h h' : hp} {Q : hQ} {K N : Nat} {M : hp → hp} (a : Int32 ⊕ String) (r : aS) (hb : ¬ gb G ≤ b) (hL : L ≤ 2048) (hi : i + 4 ≤ L) (hx : (hT h x).1 = 10) (ho : hT h' o = (24, 1)) (hS : ∀ Q1 : hQ, Q1 (oA a) h' → gS G mX10_pin 7 1 6 [sr (some x), si (xs (i + 1))] h Q1) (hA : An [exI] a r) (hM : ∀ h2, HH h' o i2l9 a h2 → MM G mX11_pin 5 [si (xs (i + 1))] m o r M h2) (kk : ∀ h2, HH h' o i2l9 a h2 → gZ (LF b L xs) G (mLw nm hh) 60 Q 2313 [some (sr (some b)), some (sr (some x)), some (sr (some m)), some (sr (some o)), some (si (nI i)), none, none] [] K N (M h2)) : gZ (LF b L xs) G (mLw nm hh) 60 Q 1831 [some (sr (some b)), some (sr (some x)), some (sr (some m)), some (sr (some o)), some (si (nI i)), none, none] [] (1 + K) (6 + N) h := by
  refine z_aload_n (pc := 1831) (i := 1) dL_law_1831 rfl rfl ?_
  refine y_arg (pc := 1832) (i := i) 1 hb hL hi (by decide) rfl dL_law_1832 dL_law_1833 dL_law_1835 dL_law_1836 dL_law_1837 rfl rfl ?_
  refine z_aload_n (pc := 1838) (i := 3) dL_law_1838 rfl rfl ?_
  refine y_X (pc := 1839) (as := [sr (some x), si (xs (i + 1)), sr (some o)]) (st := []) (N := mL_pin) (k := K) (n := N) (k1 := 1) (n1 := 6) (fun _ z => z.1) dL_law_1839 lkL_228 caL_pin rfl (wL_pin a hx ho hS (hA.wr o i2l9 h')) ⟨by decide, by decide⟩ (Nat.le_of_ble_eq_true rfl) (fun v h2 q => ?_) (fun E h2 q => nomatch q.1)
  obtain ⟨q1, q2⟩ := q
  have q3 : v = some (si r.1) := Sum.inl.inj q1
  subst q3
  show gZ (LF b L xs) G (mLw nm hh) 60 Q 1842 [some (sr (some b)), some (sr (some x)), some (sr (some m)), some (sr (some o)), some (si (nI i)), none, none] [si r.1] K N h2
  obtain ⟨m1, m2, m3, m4, m5, m6⟩ := hM h2 q2
  refine z_istore (pc := 1842) (i := 5) [some (sr (some b)), some (sr (some x)), some (sr (some m)), some (sr (some o)), some (si (nI i)), some (si r.1), none] dL_law_1842 (show 5 < 7 by decide) rfl rfl ?_
  refine z_aload_n (pc := 1844) (i := 2) dL_law_1844 rfl rfl ?_
  refine y_arg (pc := 1845) (i := i) 1 hb hL hi (by decide) rfl dL_law_1845 dL_law_1846 dL_law_1848 dL_law_1849 dL_law_1850 rfl rfl ?_
  refine z_room (k' := 0 + K) (n' := 0 + N) (by omega) (by omega) ?_
  refine y_V (pc := 1851) (as := [si (xs (i + 1))]) (st := []) (ci := 10) (N := mX11_pin) (k := K) (n := N) (k1 := 0) (n1 := 0) dL_law_1851 lkL_230 caX11_pin cvX11_pin rfl (by decide) rfl m1 (m2 (fun o9 h9 => o9 = .inl (some (si r.2.1)) ∧ h9 = M h2) ⟨rfl, rfl⟩) ⟨by decide, by decide⟩ (Nat.le_of_ble_eq_true rfl) (fun v h3 q => ?_) (fun E h3 q => nomatch q.1)
  obtain ⟨q1, rfl⟩ := q
  have q3 : v = some (si r.2.1) := Sum.inl.inj q1
  subst q3
  show gZ (LF b L xs) G (mLw nm hh) 60 Q 1854 [some (sr (some b)), some (sr (some x)), some (sr (some m)), some (sr (some o)), some (si (nI i)), some (si r.1), none] [si r.2.1] K N (M h2)
  refine z_istore (pc := 1854) (i := 6) [some (sr (some b)), some (sr (some x)), some (sr (some m)), some (sr (some o)), some (si (nI i)), some (si r.1), some (si r.2.1)] dL_law_1854 (show 6 < 7 by decide) rfl rfl ?_
  refine z_aload_n (pc := 1856) (i := 2) dL_law_1856 rfl rfl ?_
  refine z_room (k' := 0 + K) (n' := 0 + N) (by omega) (by omega) ?_
  refine y_V (pc := 1857) (as := []) (st := []) (ci := 10) (N := mX11_thrown) (k := K) (n := N) (k1 := 0) (n1 := 0) dL_law_1857 lkL_123 caX11_thrown cvX11_thrown rfl (by decide) rfl m3 (m4 (fun o9 h9 => o9 = .inl (some (si r.1)) ∧ h9 = M h2) ⟨rfl, rfl⟩) ⟨by decide, by decide⟩ (Nat.le_of_ble_eq_true rfl) (fun v h3 q => ?_) (fun E h3 q => nomatch q.1)
  obtain ⟨q1, rfl⟩ := q
  have q3 : v = some (si r.1) := Sum.inl.inj q1
  subst q3
  show gZ (LF b L xs) G (mLw nm hh) 60 Q 1860 [some (sr (some b)), some (sr (some x)), some (sr (some m)), some (sr (some o)), some (si (nI i)), some (si r.1), some (si r.2.1)] [si r.1] K N (M h2)
  refine z_iload (pc := 1860) (i := 5) dL_law_1860 rfl ?_
  refine z_icmp_eq (pc := 1862) 1867 dL_law_1862 rfl (fun _ => ?_) (fun hc => absurd rfl hc)
  refine z_iload (pc := 1867) (i := 5) dL_law_1867 rfl ?_
  refine z_if_ne (pc := 1869) 1884 dL_law_1869 rfl (fun hc => ?_) (fun hc => ?_)
  · refine z_goto (pc := 1884) 2313 dL_law_1884 rfl ?_
    exact z_less [some (sr (some b)), some (sr (some x)), some (sr (some m)), some (sr (some o)), some (si (nI i)), none, none] law_less (kk h2 q2)
  · refine z_aload_n (pc := 1872) (i := 3) dL_law_1872 rfl rfl ?_
    refine z_iconst (pc := 1873) (v := 0) dL_law_1873 rfl ?_
    refine z_lald (pc := 1874) dL_law_1874 (by rw [m5]) (by rw [m5]; exact in0) ?_
    have hv : hJ (M h2) o (0 : Int32).toNatClampNeg = i2l9 r.2.1 := (show hJ (M h2) o 0 = _ by rw [m6]; exact hA.out (by decide) hc q2)
    rw [hv]
    refine z_iload (pc := 1875) (i := 6) dL_law_1875 rfl ?_
    refine z_i2l (pc := 1877) dL_law_1877 ?_
    refine z_lcmp (pc := 1878) dL_law_1878 ?_
    refine z_if_eq (pc := 1879) 1884 dL_law_1879 rfl (fun _ => ?_) (fun hc9 => absurd (lg_self _) hc9)
    refine z_goto (pc := 1884) 2313 dL_law_1884 rfl ?_
    exact z_less [some (sr (some b)), some (sr (some x)), some (sr (some m)), some (sr (some o)), some (si (nI i)), none, none] law_less (kk h2 q2)
theorem dL_law_1887 : decode cL_law 1887 = .ok (.aload_n 1, 1) := by decide +kernel
theorem dL_law_1888 : decode cL_law 1888 = .ok (.aload_n 0, 1) := by decide +kernel
theorem dL_law_1889 : decode cL_law 1889 = .ok (.iload 4, 2) := by decide +kernel
theorem dL_law_1891 : decode cL_law 1891 = .ok (.iconst 1, 1) := by decide +kernel
theorem dL_law_1892 : decode cL_law 1892 = .ok (.iadd, 1) := by decide +kernel
theorem dL_law_1893 : decode cL_law 1893 = .ok (.iaload, 1) := by decide +kernel
theorem dL_law_1894 : decode cL_law 1894 = .ok (.aload_n 3, 1) := by decide +kernel
theorem dL_law_1895 : decode cL_law 1895 = .ok (.invokestatic 231, 3) := by decide +kernel
theorem dL_law_1898 : decode cL_law 1898 = .ok (.istore 5, 2) := by decide +kernel
theorem dL_law_1900 : decode cL_law 1900 = .ok (.aload_n 2, 1) := by decide +kernel
theorem dL_law_1901 : decode cL_law 1901 = .ok (.aload_n 0, 1) := by decide +kernel
theorem dL_law_1902 : decode cL_law 1902 = .ok (.iload 4, 2) := by decide +kernel
theorem dL_law_1904 : decode cL_law 1904 = .ok (.iconst 1, 1) := by decide +kernel
theorem dL_law_1905 : decode cL_law 1905 = .ok (.iadd, 1) := by decide +kernel
theorem dL_law_1906 : decode cL_law 1906 = .ok (.iaload, 1) := by decide +kernel
theorem dL_law_1907 : decode cL_law 1907 = .ok (.invokevirtual 233, 3) := by decide +kernel
theorem dL_law_1910 : decode cL_law 1910 = .ok (.istore 6, 2) := by decide +kernel
theorem dL_law_1912 : decode cL_law 1912 = .ok (.aload_n 2, 1) := by decide +kernel
theorem dL_law_1913 : decode cL_law 1913 = .ok (.invokevirtual 123, 3) := by decide +kernel
theorem dL_law_1916 : decode cL_law 1916 = .ok (.iload 5, 2) := by decide +kernel
theorem dL_law_1918 : decode cL_law 1918 = .ok (.if_icmp .eq 5, 3) := by decide +kernel
theorem dL_law_1923 : decode cL_law 1923 = .ok (.iload 5, 2) := by decide +kernel
theorem dL_law_1925 : decode cL_law 1925 = .ok (.ifCond .ne 15, 3) := by decide +kernel
theorem dL_law_1928 : decode cL_law 1928 = .ok (.aload_n 3, 1) := by decide +kernel
theorem dL_law_1929 : decode cL_law 1929 = .ok (.iconst 0, 1) := by decide +kernel
theorem dL_law_1930 : decode cL_law 1930 = .ok (.laload, 1) := by decide +kernel
theorem dL_law_1931 : decode cL_law 1931 = .ok (.iload 6, 2) := by decide +kernel
theorem dL_law_1933 : decode cL_law 1933 = .ok (.i2l, 1) := by decide +kernel
theorem dL_law_1934 : decode cL_law 1934 = .ok (.lcmp, 1) := by decide +kernel
theorem dL_law_1935 : decode cL_law 1935 = .ok (.ifCond .eq 5, 3) := by decide +kernel
theorem dL_law_1940 : decode cL_law 1940 = .ok (.goto 373, 3) := by decide +kernel
theorem lkL_231 : Cond.methodLink RL 231 yL_pinAnew ∈ XW := xw 1307 (by decide +kernel) rfl
theorem lkL_233 : Cond.methodLink RL 233 yX11_pinAnew ∈ XW := xw 1962 (by decide +kernel) rfl
theorem kL_pinAnew {nm : String} {hh : List (Nat × Nat × Nat × Nat)} {G : gG} {b L x m o i : Nat} {xs : Nat → Int32} {h h' : hp} {Q : hQ} {K N : Nat} {M : hp → hp} (a : Int32 ⊕ String) (r : aS) (hb : ¬ gb G ≤ b) (hL : L ≤ 2048) (hi : i + 4 ≤ L) (hx : (hT h x).1 = 10) (ho : hT h' o = (24, 1)) (hS : ∀ Q1 : hQ, Q1 (oA a) h' → gS G mX10_pinAnew 8 1 6 [sr (some x), si (xs (i + 1))] h Q1) (hA : An [exI] a r) (hM : ∀ h2, HH h' o i2l9 a h2 → MM G mX11_pinAnew 6 [si (xs (i + 1))] m o r M h2) (kk : ∀ h2, HH h' o i2l9 a h2 → gZ (LF b L xs) G (mLw nm hh) 60 Q 2313 [some (sr (some b)), some (sr (some x)), some (sr (some m)), some (sr (some o)), some (si (nI i)), none, none] [] K N (M h2)) : gZ (LF b L xs) G (mLw nm hh) 60 Q 1887 [some (sr (some b)), some (sr (some x)), some (sr (some m)), some (sr (some o)), some (si (nI i)), none, none] [] (1 + K) (6 + N) h := by
  refine z_aload_n (pc := 1887) (i := 1) dL_law_1887 rfl rfl ?_
  refine y_arg (pc := 1888) (i := i) 1 hb hL hi (by decide) rfl dL_law_1888 dL_law_1889 dL_law_1891 dL_law_1892 dL_law_1893 rfl rfl ?_
  refine z_aload_n (pc := 1894) (i := 3) dL_law_1894 rfl rfl ?_
  refine y_X (pc := 1895) (as := [sr (some x), si (xs (i + 1)), sr (some o)]) (st := []) (N := mL_pinAnew) (k := K) (n := N) (k1 := 1) (n1 := 6) (fun _ z => z.1) dL_law_1895 lkL_231 caL_pinAnew rfl (wL_pinAnew a hx ho hS (hA.wr o i2l9 h')) ⟨by decide, by decide⟩ (Nat.le_of_ble_eq_true rfl) (fun v h2 q => ?_) (fun E h2 q => nomatch q.1)
  obtain ⟨q1, q2⟩ := q
  have q3 : v = some (si r.1) := Sum.inl.inj q1
  subst q3
  show gZ (LF b L xs) G (mLw nm hh) 60 Q 1898 [some (sr (some b)), some (sr (some x)), some (sr (some m)), some (sr (some o)), some (si (nI i)), none, none] [si r.1] K N h2
  obtain ⟨m1, m2, m3, m4, m5, m6⟩ := hM h2 q2
  refine z_istore (pc := 1898) (i := 5) [some (sr (some b)), some (sr (some x)), some (sr (some m)), some (sr (some o)), some (si (nI i)), some (si r.1), none] dL_law_1898 (show 5 < 7 by decide) rfl rfl ?_
  refine z_aload_n (pc := 1900) (i := 2) dL_law_1900 rfl rfl ?_
  refine y_arg (pc := 1901) (i := i) 1 hb hL hi (by decide) rfl dL_law_1901 dL_law_1902 dL_law_1904 dL_law_1905 dL_law_1906 rfl rfl ?_
  refine z_room (k' := 0 + K) (n' := 0 + N) (by omega) (by omega) ?_
  refine y_V (pc := 1907) (as := [si (xs (i + 1))]) (st := []) (ci := 10) (N := mX11_pinAnew) (k := K) (n := N) (k1 := 0) (n1 := 0) dL_law_1907 lkL_233 caX11_pinAnew cvX11_pinAnew rfl (by decide) rfl m1 (m2 (fun o9 h9 => o9 = .inl (some (si r.2.1)) ∧ h9 = M h2) ⟨rfl, rfl⟩) ⟨by decide, by decide⟩ (Nat.le_of_ble_eq_true rfl) (fun v h3 q => ?_) (fun E h3 q => nomatch q.1)
  obtain ⟨q1, rfl⟩ := q
  have q3 : v = some (si r.2.1) := Sum.inl.inj q1
  subst q3
  show gZ (LF b L xs) G (mLw nm hh) 60 Q 1910 [some (sr (some b)), some (sr (some x)), some (sr (some m)), some (sr (some o)), some (si (nI i)), some (si r.1), none] [si r.2.1] K N (M h2)
  refine z_istore (pc := 1910) (i := 6) [some (sr (some b)), some (sr (some x)), some (sr (some m)), some (sr (some o)), some (si (nI i)), some (si r.1), some (si r.2.1)] dL_law_1910 (show 6 < 7 by decide) rfl rfl ?_
  refine z_aload_n (pc := 1912) (i := 2) dL_law_1912 rfl rfl ?_
  refine z_room (k' := 0 + K) (n' := 0 + N) (by omega) (by omega) ?_
  refine y_V (pc := 1913) (as := []) (st := []) (ci := 10) (N := mX11_thrown) (k := K) (n := N) (k1 := 0) (n1 := 0) dL_law_1913 lkL_123 caX11_thrown cvX11_thrown rfl (by decide) rfl m3 (m4 (fun o9 h9 => o9 = .inl (some (si r.1)) ∧ h9 = M h2) ⟨rfl, rfl⟩) ⟨by decide, by decide⟩ (Nat.le_of_ble_eq_true rfl) (fun v h3 q => ?_) (fun E h3 q => nomatch q.1)
  obtain ⟨q1, rfl⟩ := q
  have q3 : v = some (si r.1) := Sum.inl.inj q1
  subst q3
  show gZ (LF b L xs) G (mLw nm hh) 60 Q 1916 [some (sr (some b)), some (sr (some x)), some (sr (some m)), some (sr (some o)), some (si (nI i)), some (si r.1), some (si r.2.1)] [si r.1] K N (M h2)
  refine z_iload (pc := 1916) (i := 5) dL_law_1916 rfl ?_
  refine z_icmp_eq (pc := 1918) 1923 dL_law_1918 rfl (fun _ => ?_) (fun hc => absurd rfl hc)
  refine z_iload (pc := 1923) (i := 5) dL_law_1923 rfl ?_
  refine z_if_ne (pc := 1925) 1940 dL_law_1925 rfl (fun hc => ?_) (fun hc => ?_)
  · refine z_goto (pc := 1940) 2313 dL_law_1940 rfl ?_
    exact z_less [some (sr (some b)), some (sr (some x)), some (sr (some m)), some (sr (some o)), some (si (nI i)), none, none] law_less (kk h2 q2)
  · refine z_aload_n (pc := 1928) (i := 3) dL_law_1928 rfl rfl ?_
    refine z_iconst (pc := 1929) (v := 0) dL_law_1929 rfl ?_
    refine z_lald (pc := 1930) dL_law_1930 (by rw [m5]) (by rw [m5]; exact in0) ?_
    have hv : hJ (M h2) o (0 : Int32).toNatClampNeg = i2l9 r.2.1 := (show hJ (M h2) o 0 = _ by rw [m6]; exact hA.out (by decide) hc q2)
    rw [hv]
    refine z_iload (pc := 1931) (i := 6) dL_law_1931 rfl ?_
    refine z_i2l (pc := 1933) dL_law_1933 ?_
    refine z_lcmp (pc := 1934) dL_law_1934 ?_
    refine z_if_eq (pc := 1935) 1940 dL_law_1935 rfl (fun _ => ?_) (fun hc9 => absurd (lg_self _) hc9)
    refine z_goto (pc := 1940) 2313 dL_law_1940 rfl ?_
    exact z_less [some (sr (some b)), some (sr (some x)), some (sr (some m)), some (sr (some o)), some (si (nI i)), none, none] law_less (kk h2 q2)
