/-! ===== cases of the law ===== -/
theorem dL_law_807 : decode cL_law 807 = .ok (.aload_n 1, 1) := by decide +kernel
theorem dL_law_808 : decode cL_law 808 = .ok (.aload_n 0, 1) := by decide +kernel
theorem dL_law_809 : decode cL_law 809 = .ok (.iload 4, 2) := by decide +kernel
theorem dL_law_811 : decode cL_law 811 = .ok (.iconst 1, 1) := by decide +kernel
theorem dL_law_812 : decode cL_law 812 = .ok (.iadd, 1) := by decide +kernel
theorem dL_law_813 : decode cL_law 813 = .ok (.iaload, 1) := by decide +kernel
theorem dL_law_814 : decode cL_law 814 = .ok (.aload_n 3, 1) := by decide +kernel
theorem dL_law_815 : decode cL_law 815 = .ok (.invokestatic 155, 3) := by decide +kernel
theorem dL_law_818 : decode cL_law 818 = .ok (.istore 5, 2) := by decide +kernel
theorem dL_law_820 : decode cL_law 820 = .ok (.aload_n 2, 1) := by decide +kernel
theorem dL_law_821 : decode cL_law 821 = .ok (.aload_n 0, 1) := by decide +kernel
theorem dL_law_822 : decode cL_law 822 = .ok (.iload 4, 2) := by decide +kernel
theorem dL_law_824 : decode cL_law 824 = .ok (.iconst 1, 1) := by decide +kernel
theorem dL_law_825 : decode cL_law 825 = .ok (.iadd, 1) := by decide +kernel
theorem dL_law_826 : decode cL_law 826 = .ok (.iaload, 1) := by decide +kernel
theorem dL_law_827 : decode cL_law 827 = .ok (.invokevirtual 157, 3) := by decide +kernel
theorem dL_law_830 : decode cL_law 830 = .ok (.istore 6, 2) := by decide +kernel
theorem dL_law_832 : decode cL_law 832 = .ok (.aload_n 2, 1) := by decide +kernel
theorem dL_law_833 : decode cL_law 833 = .ok (.invokevirtual 123, 3) := by decide +kernel
theorem dL_law_836 : decode cL_law 836 = .ok (.iload 5, 2) := by decide +kernel
theorem dL_law_838 : decode cL_law 838 = .ok (.if_icmp .eq 5, 3) := by decide +kernel
theorem dL_law_843 : decode cL_law 843 = .ok (.iload 5, 2) := by decide +kernel
theorem dL_law_845 : decode cL_law 845 = .ok (.ifCond .ne 15, 3) := by decide +kernel
theorem dL_law_848 : decode cL_law 848 = .ok (.aload_n 3, 1) := by decide +kernel
theorem dL_law_849 : decode cL_law 849 = .ok (.iconst 0, 1) := by decide +kernel
theorem dL_law_850 : decode cL_law 850 = .ok (.laload, 1) := by decide +kernel
theorem dL_law_851 : decode cL_law 851 = .ok (.iload 6, 2) := by decide +kernel
theorem dL_law_853 : decode cL_law 853 = .ok (.i2l, 1) := by decide +kernel
theorem dL_law_854 : decode cL_law 854 = .ok (.lcmp, 1) := by decide +kernel
theorem dL_law_855 : decode cL_law 855 = .ok (.ifCond .eq 5, 3) := by decide +kernel
theorem dL_law_860 : decode cL_law 860 = .ok (.goto 1453, 3) := by decide +kernel
theorem lkL_155 : Cond.methodLink RL 155 yL_kind ∈ XW := xw 993 (by decide +kernel) rfl
theorem lkL_157 : Cond.methodLink RL 157 yX11_kind ∈ XW := xw 1766 (by decide +kernel) rfl
theorem kL_kind {nm : String} {hh : List (Nat × Nat × Nat × Nat)} {G : gG} {b L x m o i : Nat} {xs : Nat → Int32} {h h' : hp} {Q : hQ} {K N : Nat} {M : hp → hp} (a : Int32 ⊕ String) (r : aS) (hb : ¬ gb G ≤ b) (hL : L ≤ 2048) (hi : i + 4 ≤ L) (hx : (hT h x).1 = 10) (ho : hT h' o = (24, 1)) (hS : ∀ Q1 : hQ, Q1 (oA a) h' → gS G mX10_kind 7 1 6 [sr (some x), si (xs (i + 1))] h Q1) (hA : An [exI] a r) (hM : ∀ h2, HH h' o i2l9 a h2 → MM G mX11_kind 3 [si (xs (i + 1))] m o r M h2) (kk : ∀ h2, HH h' o i2l9 a h2 → gZ (LF b L xs) G (mLw nm hh) 60 Q 2313 [some (sr (some b)), some (sr (some x)), some (sr (some m)), some (sr (some o)), some (si (nI i)), none, none] [] K N (M h2)) : gZ (LF b L xs) G (mLw nm hh) 60 Q 807 [some (sr (some b)), some (sr (some x)), some (sr (some m)), some (sr (some o)), some (si (nI i)), none, none] [] (1 + K) (6 + N) h := by
  refine z_aload_n (pc := 807) (i := 1) dL_law_807 rfl rfl ?_
  refine y_arg (pc := 808) (i := i) 1 hb hL hi (by decide) rfl dL_law_808 dL_law_809 dL_law_811 dL_law_812 dL_law_813 rfl rfl ?_
  refine z_aload_n (pc := 814) (i := 3) dL_law_814 rfl rfl ?_
  refine y_X (pc := 815) (as := [sr (some x), si (xs (i + 1)), sr (some o)]) (st := []) (N := mL_kind) (k := K) (n := N) (k1 := 1) (n1 := 6) (fun _ z => z.1) dL_law_815 lkL_155 caL_kind rfl (wL_kind a hx ho hS (hA.wr o i2l9 h')) ⟨by decide, by decide⟩ (Nat.le_of_ble_eq_true rfl) (fun v h2 q => ?_) (fun E h2 q => nomatch q.1)
  obtain ⟨q1, q2⟩ := q
  have q3 : v = some (si r.1) := Sum.inl.inj q1
  subst q3
  show gZ (LF b L xs) G (mLw nm hh) 60 Q 818 [some (sr (some b)), some (sr (some x)), some (sr (some m)), some (sr (some o)), some (si (nI i)), none, none] [si r.1] K N h2
  obtain ⟨m1, m2, m3, m4, m5, m6⟩ := hM h2 q2
  refine z_istore (pc := 818) (i := 5) [some (sr (some b)), some (sr (some x)), some (sr (some m)), some (sr (some o)), some (si (nI i)), some (si r.1), none] dL_law_818 (show 5 < 7 by decide) rfl rfl ?_
  refine z_aload_n (pc := 820) (i := 2) dL_law_820 rfl rfl ?_
  refine y_arg (pc := 821) (i := i) 1 hb hL hi (by decide) rfl dL_law_821 dL_law_822 dL_law_824 dL_law_825 dL_law_826 rfl rfl ?_
  refine z_room (k' := 0 + K) (n' := 0 + N) (by omega) (by omega) ?_
  refine y_V (pc := 827) (as := [si (xs (i + 1))]) (st := []) (ci := 10) (N := mX11_kind) (k := K) (n := N) (k1 := 0) (n1 := 0) dL_law_827 lkL_157 caX11_kind cvX11_kind rfl (by decide) rfl m1 (m2 (fun o9 h9 => o9 = .inl (some (si r.2.1)) ∧ h9 = M h2) ⟨rfl, rfl⟩) ⟨by decide, by decide⟩ (Nat.le_of_ble_eq_true rfl) (fun v h3 q => ?_) (fun E h3 q => nomatch q.1)
  obtain ⟨q1, rfl⟩ := q
  have q3 : v = some (si r.2.1) := Sum.inl.inj q1
  subst q3
  show gZ (LF b L xs) G (mLw nm hh) 60 Q 830 [some (sr (some b)), some (sr (some x)), some (sr (some m)), some (sr (some o)), some (si (nI i)), some (si r.1), none] [si r.2.1] K N (M h2)
  refine z_istore (pc := 830) (i := 6) [some (sr (some b)), some (sr (some x)), some (sr (some m)), some (sr (some o)), some (si (nI i)), some (si r.1), some (si r.2.1)] dL_law_830 (show 6 < 7 by decide) rfl rfl ?_
  refine z_aload_n (pc := 832) (i := 2) dL_law_832 rfl rfl ?_
  refine z_room (k' := 0 + K) (n' := 0 + N) (by omega) (by omega) ?_
  refine y_V (pc := 833) (as := []) (st := []) (ci := 10) (N := mX11_thrown) (k := K) (n := N) (k1 := 0) (n1 := 0) dL_law_833 lkL_123 caX11_thrown cvX11_thrown rfl (by decide) rfl m3 (m4 (fun o9 h9 => o9 = .inl (some (si r.1)) ∧ h9 = M h2) ⟨rfl, rfl⟩) ⟨by decide, by decide⟩ (Nat.le_of_ble_eq_true rfl) (fun v h3 q => ?_) (fun E h3 q => nomatch q.1)
  obtain ⟨q1, rfl⟩ := q
  have q3 : v = some (si r.1) := Sum.inl.inj q1
  subst q3
  show gZ (LF b L xs) G (mLw nm hh) 60 Q 836 [some (sr (some b)), some (sr (some x)), some (sr (some m)), some (sr (some o)), some (si (nI i)), some (si r.1), some (si r.2.1)] [si r.1] K N (M h2)
  refine z_iload (pc := 836) (i := 5) dL_law_836 rfl ?_
  refine z_icmp_eq (pc := 838) 843 dL_law_838 rfl (fun _ => ?_) (fun hc => absurd rfl hc)
  refine z_iload (pc := 843) (i := 5) dL_law_843 rfl ?_
  refine z_if_ne (pc := 845) 860 dL_law_845 rfl (fun hc => ?_) (fun hc => ?_)
  · refine z_goto (pc := 860) 2313 dL_law_860 rfl ?_
    exact z_less [some (sr (some b)), some (sr (some x)), some (sr (some m)), some (sr (some o)), some (si (nI i)), none, none] law_less (kk h2 q2)
  · refine z_aload_n (pc := 848) (i := 3) dL_law_848 rfl rfl ?_
    refine z_iconst (pc := 849) (v := 0) dL_law_849 rfl ?_
    refine z_lald (pc := 850) dL_law_850 (by rw [m5]) (by rw [m5]; exact in0) ?_
    have hv : hJ (M h2) o (0 : Int32).toNatClampNeg = i2l9 r.2.1 := (show hJ (M h2) o 0 = _ by rw [m6]; exact hA.out (by decide) hc q2)
    rw [hv]
    refine z_iload (pc := 851) (i := 6) dL_law_851 rfl ?_
    refine z_i2l (pc := 853) dL_law_853 ?_
    refine z_lcmp (pc := 854) dL_law_854 ?_
    refine z_if_eq (pc := 855) 860 dL_law_855 rfl (fun _ => ?_) (fun hc9 => absurd (lg_self _) hc9)
    refine z_goto (pc := 860) 2313 dL_law_860 rfl ?_
    exact z_less [some (sr (some b)), some (sr (some x)), some (sr (some m)), some (sr (some o)), some (si (nI i)), none, none] law_less (kk h2 q2)
theorem dL_law_863 : decode cL_law 863 = .ok (.aload_n 1, 1) := by decide +kernel
theorem dL_law_864 : decode cL_law 864 = .ok (.aload_n 0, 1) := by decide +kernel
theorem dL_law_865 : decode cL_law 865 = .ok (.iload 4, 2) := by decide +kernel
theorem dL_law_867 : decode cL_law 867 = .ok (.iconst 1, 1) := by decide +kernel
theorem dL_law_868 : decode cL_law 868 = .ok (.iadd, 1) := by decide +kernel
theorem dL_law_869 : decode cL_law 869 = .ok (.iaload, 1) := by decide +kernel
theorem dL_law_870 : decode cL_law 870 = .ok (.aload_n 3, 1) := by decide +kernel
theorem dL_law_871 : decode cL_law 871 = .ok (.invokestatic 158, 3) := by decide +kernel
theorem dL_law_874 : decode cL_law 874 = .ok (.istore 5, 2) := by decide +kernel
theorem dL_law_876 : decode cL_law 876 = .ok (.aload_n 2, 1) := by decide +kernel
theorem dL_law_877 : decode cL_law 877 = .ok (.aload_n 0, 1) := by decide +kernel
theorem dL_law_878 : decode cL_law 878 = .ok (.iload 4, 2) := by decide +kernel
theorem dL_law_880 : decode cL_law 880 = .ok (.iconst 1, 1) := by decide +kernel
theorem dL_law_881 : decode cL_law 881 = .ok (.iadd, 1) := by decide +kernel
theorem dL_law_882 : decode cL_law 882 = .ok (.iaload, 1) := by decide +kernel
theorem dL_law_883 : decode cL_law 883 = .ok (.invokevirtual 160, 3) := by decide +kernel
theorem dL_law_886 : decode cL_law 886 = .ok (.istore 6, 2) := by decide +kernel
theorem dL_law_888 : decode cL_law 888 = .ok (.aload_n 2, 1) := by decide +kernel
theorem dL_law_889 : decode cL_law 889 = .ok (.invokevirtual 123, 3) := by decide +kernel
theorem dL_law_892 : decode cL_law 892 = .ok (.iload 5, 2) := by decide +kernel
theorem dL_law_894 : decode cL_law 894 = .ok (.if_icmp .eq 5, 3) := by decide +kernel
theorem dL_law_899 : decode cL_law 899 = .ok (.iload 5, 2) := by decide +kernel
theorem dL_law_901 : decode cL_law 901 = .ok (.ifCond .ne 15, 3) := by decide +kernel
theorem dL_law_904 : decode cL_law 904 = .ok (.aload_n 3, 1) := by decide +kernel
theorem dL_law_905 : decode cL_law 905 = .ok (.iconst 0, 1) := by decide +kernel
theorem dL_law_906 : decode cL_law 906 = .ok (.laload, 1) := by decide +kernel
theorem dL_law_907 : decode cL_law 907 = .ok (.iload 6, 2) := by decide +kernel
theorem dL_law_909 : decode cL_law 909 = .ok (.i2l, 1) := by decide +kernel
theorem dL_law_910 : decode cL_law 910 = .ok (.lcmp, 1) := by decide +kernel
theorem dL_law_911 : decode cL_law 911 = .ok (.ifCond .eq 5, 3) := by decide +kernel
theorem dL_law_916 : decode cL_law 916 = .ok (.goto 1397, 3) := by decide +kernel
theorem lkL_158 : Cond.methodLink RL 158 yL_parent ∈ XW := xw 1000 (by decide +kernel) rfl
theorem lkL_160 : Cond.methodLink RL 160 yX11_parent ∈ XW := xw 1774 (by decide +kernel) rfl
theorem kL_parent {nm : String} {hh : List (Nat × Nat × Nat × Nat)} {G : gG} {b L x m o i : Nat} {xs : Nat → Int32} {h h' : hp} {Q : hQ} {K N : Nat} {M : hp → hp} (a : Int32 ⊕ String) (r : aS) (hb : ¬ gb G ≤ b) (hL : L ≤ 2048) (hi : i + 4 ≤ L) (hx : (hT h x).1 = 10) (ho : hT h' o = (24, 1)) (hS : ∀ Q1 : hQ, Q1 (oA a) h' → gS G mX10_parent 7 1 6 [sr (some x), si (xs (i + 1))] h Q1) (hA : An [exI] a r) (hM : ∀ h2, HH h' o i2l9 a h2 → MM G mX11_parent 3 [si (xs (i + 1))] m o r M h2) (kk : ∀ h2, HH h' o i2l9 a h2 → gZ (LF b L xs) G (mLw nm hh) 60 Q 2313 [some (sr (some b)), some (sr (some x)), some (sr (some m)), some (sr (some o)), some (si (nI i)), none, none] [] K N (M h2)) : gZ (LF b L xs) G (mLw nm hh) 60 Q 863 [some (sr (some b)), some (sr (some x)), some (sr (some m)), some (sr (some o)), some (si (nI i)), none, none] [] (1 + K) (6 + N) h := by
  refine z_aload_n (pc := 863) (i := 1) dL_law_863 rfl rfl ?_
  refine y_arg (pc := 864) (i := i) 1 hb hL hi (by decide) rfl dL_law_864 dL_law_865 dL_law_867 dL_law_868 dL_law_869 rfl rfl ?_
  refine z_aload_n (pc := 870) (i := 3) dL_law_870 rfl rfl ?_
  refine y_X (pc := 871) (as := [sr (some x), si (xs (i + 1)), sr (some o)]) (st := []) (N := mL_parent) (k := K) (n := N) (k1 := 1) (n1 := 6) (fun _ z => z.1) dL_law_871 lkL_158 caL_parent rfl (wL_parent a hx ho hS (hA.wr o i2l9 h')) ⟨by decide, by decide⟩ (Nat.le_of_ble_eq_true rfl) (fun v h2 q => ?_) (fun E h2 q => nomatch q.1)
  obtain ⟨q1, q2⟩ := q
  have q3 : v = some (si r.1) := Sum.inl.inj q1
  subst q3
  show gZ (LF b L xs) G (mLw nm hh) 60 Q 874 [some (sr (some b)), some (sr (some x)), some (sr (some m)), some (sr (some o)), some (si (nI i)), none, none] [si r.1] K N h2
  obtain ⟨m1, m2, m3, m4, m5, m6⟩ := hM h2 q2
  refine z_istore (pc := 874) (i := 5) [some (sr (some b)), some (sr (some x)), some (sr (some m)), some (sr (some o)), some (si (nI i)), some (si r.1), none] dL_law_874 (show 5 < 7 by decide) rfl rfl ?_
  refine z_aload_n (pc := 876) (i := 2) dL_law_876 rfl rfl ?_
  refine y_arg (pc := 877) (i := i) 1 hb hL hi (by decide) rfl dL_law_877 dL_law_878 dL_law_880 dL_law_881 dL_law_882 rfl rfl ?_
  refine z_room (k' := 0 + K) (n' := 0 + N) (by omega) (by omega) ?_
  refine y_V (pc := 883) (as := [si (xs (i + 1))]) (st := []) (ci := 10) (N := mX11_parent) (k := K) (n := N) (k1 := 0) (n1 := 0) dL_law_883 lkL_160 caX11_parent cvX11_parent rfl (by decide) rfl m1 (m2 (fun o9 h9 => o9 = .inl (some (si r.2.1)) ∧ h9 = M h2) ⟨rfl, rfl⟩) ⟨by decide, by decide⟩ (Nat.le_of_ble_eq_true rfl) (fun v h3 q => ?_) (fun E h3 q => nomatch q.1)
  obtain ⟨q1, rfl⟩ := q
  have q3 : v = some (si r.2.1) := Sum.inl.inj q1
  subst q3
  show gZ (LF b L xs) G (mLw nm hh) 60 Q 886 [some (sr (some b)), some (sr (some x)), some (sr (some m)), some (sr (some o)), some (si (nI i)), some (si r.1), none] [si r.2.1] K N (M h2)
  refine z_istore (pc := 886) (i := 6) [some (sr (some b)), some (sr (some x)), some (sr (some m)), some (sr (some o)), some (si (nI i)), some (si r.1), some (si r.2.1)] dL_law_886 (show 6 < 7 by decide) rfl rfl ?_
  refine z_aload_n (pc := 888) (i := 2) dL_law_888 rfl rfl ?_
  refine z_room (k' := 0 + K) (n' := 0 + N) (by omega) (by omega) ?_
  refine y_V (pc := 889) (as := []) (st := []) (ci := 10) (N := mX11_thrown) (k := K) (n := N) (k1 := 0) (n1 := 0) dL_law_889 lkL_123 caX11_thrown cvX11_thrown rfl (by decide) rfl m3 (m4 (fun o9 h9 => o9 = .inl (some (si r.1)) ∧ h9 = M h2) ⟨rfl, rfl⟩) ⟨by decide, by decide⟩ (Nat.le_of_ble_eq_true rfl) (fun v h3 q => ?_) (fun E h3 q => nomatch q.1)
  obtain ⟨q1, rfl⟩ := q
  have q3 : v = some (si r.1) := Sum.inl.inj q1
  subst q3
  show gZ (LF b L xs) G (mLw nm hh) 60 Q 892 [some (sr (some b)), some (sr (some x)), some (sr (some m)), some (sr (some o)), some (si (nI i)), some (si r.1), some (si r.2.1)] [si r.1] K N (M h2)
  refine z_iload (pc := 892) (i := 5) dL_law_892 rfl ?_
  refine z_icmp_eq (pc := 894) 899 dL_law_894 rfl (fun _ => ?_) (fun hc => absurd rfl hc)
  refine z_iload (pc := 899) (i := 5) dL_law_899 rfl ?_
  refine z_if_ne (pc := 901) 916 dL_law_901 rfl (fun hc => ?_) (fun hc => ?_)
  · refine z_goto (pc := 916) 2313 dL_law_916 rfl ?_
    exact z_less [some (sr (some b)), some (sr (some x)), some (sr (some m)), some (sr (some o)), some (si (nI i)), none, none] law_less (kk h2 q2)
  · refine z_aload_n (pc := 904) (i := 3) dL_law_904 rfl rfl ?_
    refine z_iconst (pc := 905) (v := 0) dL_law_905 rfl ?_
    refine z_lald (pc := 906) dL_law_906 (by rw [m5]) (by rw [m5]; exact in0) ?_
    have hv : hJ (M h2) o (0 : Int32).toNatClampNeg = i2l9 r.2.1 := (show hJ (M h2) o 0 = _ by rw [m6]; exact hA.out (by decide) hc q2)
    rw [hv]
    refine z_iload (pc := 907) (i := 6) dL_law_907 rfl ?_
    refine z_i2l (pc := 909) dL_law_909 ?_
    refine z_lcmp (pc := 910) dL_law_910 ?_
    refine z_if_eq (pc := 911) 916 dL_law_911 rfl (fun _ => ?_) (fun hc9 => absurd (lg_self _) hc9)
    refine z_goto (pc := 916) 2313 dL_law_916 rfl ?_
    exact z_less [some (sr (some b)), some (sr (some x)), some (sr (some m)), some (sr (some o)), some (si (nI i)), none, none] law_less (kk h2 q2)
theorem dL_law_919 : decode cL_law 919 = .ok (.aload_n 1, 1) := by decide +kernel
theorem dL_law_920 : decode cL_law 920 = .ok (.aload_n 0, 1) := by decide +kernel
theorem dL_law_921 : decode cL_law 921 = .ok (.iload 4, 2) := by decide +kernel
theorem dL_law_923 : decode cL_law 923 = .ok (.iconst 1, 1) := by decide +kernel
theorem dL_law_924 : decode cL_law 924 = .ok (.iadd, 1) := by decide +kernel
theorem dL_law_925 : decode cL_law 925 = .ok (.iaload, 1) := by decide +kernel
theorem dL_law_926 : decode cL_law 926 = .ok (.aload_n 3, 1) := by decide +kernel
theorem dL_law_927 : decode cL_law 927 = .ok (.invokestatic 161, 3) := by decide +kernel
theorem dL_law_930 : decode cL_law 930 = .ok (.istore 5, 2) := by decide +kernel
theorem dL_law_932 : decode cL_law 932 = .ok (.aload_n 2, 1) := by decide +kernel
theorem dL_law_933 : decode cL_law 933 = .ok (.aload_n 0, 1) := by decide +kernel
theorem dL_law_934 : decode cL_law 934 = .ok (.iload 4, 2) := by decide +kernel
theorem dL_law_936 : decode cL_law 936 = .ok (.iconst 1, 1) := by decide +kernel
theorem dL_law_937 : decode cL_law 937 = .ok (.iadd, 1) := by decide +kernel
theorem dL_law_938 : decode cL_law 938 = .ok (.iaload, 1) := by decide +kernel
theorem dL_law_939 : decode cL_law 939 = .ok (.invokevirtual 163, 3) := by decide +kernel
theorem dL_law_942 : decode cL_law 942 = .ok (.istore 6, 2) := by decide +kernel
theorem dL_law_944 : decode cL_law 944 = .ok (.aload_n 2, 1) := by decide +kernel
theorem dL_law_945 : decode cL_law 945 = .ok (.invokevirtual 123, 3) := by decide +kernel
theorem dL_law_948 : decode cL_law 948 = .ok (.iload 5, 2) := by decide +kernel
theorem dL_law_950 : decode cL_law 950 = .ok (.if_icmp .eq 5, 3) := by decide +kernel
theorem dL_law_955 : decode cL_law 955 = .ok (.iload 5, 2) := by decide +kernel
theorem dL_law_957 : decode cL_law 957 = .ok (.ifCond .ne 15, 3) := by decide +kernel
theorem dL_law_960 : decode cL_law 960 = .ok (.aload_n 3, 1) := by decide +kernel
theorem dL_law_961 : decode cL_law 961 = .ok (.iconst 0, 1) := by decide +kernel
theorem dL_law_962 : decode cL_law 962 = .ok (.laload, 1) := by decide +kernel
theorem dL_law_963 : decode cL_law 963 = .ok (.iload 6, 2) := by decide +kernel
theorem dL_law_965 : decode cL_law 965 = .ok (.i2l, 1) := by decide +kernel
theorem dL_law_966 : decode cL_law 966 = .ok (.lcmp, 1) := by decide +kernel
theorem dL_law_967 : decode cL_law 967 = .ok (.ifCond .eq 5, 3) := by decide +kernel
theorem dL_law_972 : decode cL_law 972 = .ok (.goto 1341, 3) := by decide +kernel
theorem lkL_161 : Cond.methodLink RL 161 yL_children ∈ XW := xw 1007 (by decide +kernel) rfl
theorem lkL_163 : Cond.methodLink RL 163 yX11_children ∈ XW := xw 1778 (by decide +kernel) rfl
theorem kL_children {nm : String} {hh : List (Nat × Nat × Nat × Nat)} {G : gG} {b L x m o i : Nat} {xs : Nat → Int32} {h h' : hp} {Q : hQ} {K N : Nat} {M : hp → hp} (a : Int32 ⊕ String) (r : aS) (hb : ¬ gb G ≤ b) (hL : L ≤ 2048) (hi : i + 4 ≤ L) (hx : (hT h x).1 = 10) (ho : hT h' o = (24, 1)) (hS : ∀ Q1 : hQ, Q1 (oA a) h' → gS G mX10_children 7 1 6 [sr (some x), si (xs (i + 1))] h Q1) (hA : An [exI] a r) (hM : ∀ h2, HH h' o i2l9 a h2 → MM G mX11_children 3 [si (xs (i + 1))] m o r M h2) (kk : ∀ h2, HH h' o i2l9 a h2 → gZ (LF b L xs) G (mLw nm hh) 60 Q 2313 [some (sr (some b)), some (sr (some x)), some (sr (some m)), some (sr (some o)), some (si (nI i)), none, none] [] K N (M h2)) : gZ (LF b L xs) G (mLw nm hh) 60 Q 919 [some (sr (some b)), some (sr (some x)), some (sr (some m)), some (sr (some o)), some (si (nI i)), none, none] [] (1 + K) (6 + N) h := by
  refine z_aload_n (pc := 919) (i := 1) dL_law_919 rfl rfl ?_
  refine y_arg (pc := 920) (i := i) 1 hb hL hi (by decide) rfl dL_law_920 dL_law_921 dL_law_923 dL_law_924 dL_law_925 rfl rfl ?_
  refine z_aload_n (pc := 926) (i := 3) dL_law_926 rfl rfl ?_
  refine y_X (pc := 927) (as := [sr (some x), si (xs (i + 1)), sr (some o)]) (st := []) (N := mL_children) (k := K) (n := N) (k1 := 1) (n1 := 6) (fun _ z => z.1) dL_law_927 lkL_161 caL_children rfl (wL_children a hx ho hS (hA.wr o i2l9 h')) ⟨by decide, by decide⟩ (Nat.le_of_ble_eq_true rfl) (fun v h2 q => ?_) (fun E h2 q => nomatch q.1)
  obtain ⟨q1, q2⟩ := q
  have q3 : v = some (si r.1) := Sum.inl.inj q1
  subst q3
  show gZ (LF b L xs) G (mLw nm hh) 60 Q 930 [some (sr (some b)), some (sr (some x)), some (sr (some m)), some (sr (some o)), some (si (nI i)), none, none] [si r.1] K N h2
  obtain ⟨m1, m2, m3, m4, m5, m6⟩ := hM h2 q2
  refine z_istore (pc := 930) (i := 5) [some (sr (some b)), some (sr (some x)), some (sr (some m)), some (sr (some o)), some (si (nI i)), some (si r.1), none] dL_law_930 (show 5 < 7 by decide) rfl rfl ?_
  refine z_aload_n (pc := 932) (i := 2) dL_law_932 rfl rfl ?_
  refine y_arg (pc := 933) (i := i) 1 hb hL hi (by decide) rfl dL_law_933 dL_law_934 dL_law_936 dL_law_937 dL_law_938 rfl rfl ?_
  refine z_room (k' := 0 + K) (n' := 0 + N) (by omega) (by omega) ?_
  refine y_V (pc := 939) (as := [si (xs (i + 1))]) (st := []) (ci := 10) (N := mX11_children) (k := K) (n := N) (k1 := 0) (n1 := 0) dL_law_939 lkL_163 caX11_children cvX11_children rfl (by decide) rfl m1 (m2 (fun o9 h9 => o9 = .inl (some (si r.2.1)) ∧ h9 = M h2) ⟨rfl, rfl⟩) ⟨by decide, by decide⟩ (Nat.le_of_ble_eq_true rfl) (fun v h3 q => ?_) (fun E h3 q => nomatch q.1)
  obtain ⟨q1, rfl⟩ := q
  have q3 : v = some (si r.2.1) := Sum.inl.inj q1
  subst q3
  show gZ (LF b L xs) G (mLw nm hh) 60 Q 942 [some (sr (some b)), some (sr (some x)), some (sr (some m)), some (sr (some o)), some (si (nI i)), some (si r.1), none] [si r.2.1] K N (M h2)
  refine z_istore (pc := 942) (i := 6) [some (sr (some b)), some (sr (some x)), some (sr (some m)), some (sr (some o)), some (si (nI i)), some (si r.1), some (si r.2.1)] dL_law_942 (show 6 < 7 by decide) rfl rfl ?_
  refine z_aload_n (pc := 944) (i := 2) dL_law_944 rfl rfl ?_
  refine z_room (k' := 0 + K) (n' := 0 + N) (by omega) (by omega) ?_
  refine y_V (pc := 945) (as := []) (st := []) (ci := 10) (N := mX11_thrown) (k := K) (n := N) (k1 := 0) (n1 := 0) dL_law_945 lkL_123 caX11_thrown cvX11_thrown rfl (by decide) rfl m3 (m4 (fun o9 h9 => o9 = .inl (some (si r.1)) ∧ h9 = M h2) ⟨rfl, rfl⟩) ⟨by decide, by decide⟩ (Nat.le_of_ble_eq_true rfl) (fun v h3 q => ?_) (fun E h3 q => nomatch q.1)
  obtain ⟨q1, rfl⟩ := q
  have q3 : v = some (si r.1) := Sum.inl.inj q1
  subst q3
  show gZ (LF b L xs) G (mLw nm hh) 60 Q 948 [some (sr (some b)), some (sr (some x)), some (sr (some m)), some (sr (some o)), some (si (nI i)), some (si r.1), some (si r.2.1)] [si r.1] K N (M h2)
  refine z_iload (pc := 948) (i := 5) dL_law_948 rfl ?_
  refine z_icmp_eq (pc := 950) 955 dL_law_950 rfl (fun _ => ?_) (fun hc => absurd rfl hc)
  refine z_iload (pc := 955) (i := 5) dL_law_955 rfl ?_
  refine z_if_ne (pc := 957) 972 dL_law_957 rfl (fun hc => ?_) (fun hc => ?_)
  · refine z_goto (pc := 972) 2313 dL_law_972 rfl ?_
    exact z_less [some (sr (some b)), some (sr (some x)), some (sr (some m)), some (sr (some o)), some (si (nI i)), none, none] law_less (kk h2 q2)
  · refine z_aload_n (pc := 960) (i := 3) dL_law_960 rfl rfl ?_
    refine z_iconst (pc := 961) (v := 0) dL_law_961 rfl ?_
    refine z_lald (pc := 962) dL_law_962 (by rw [m5]) (by rw [m5]; exact in0) ?_
    have hv : hJ (M h2) o (0 : Int32).toNatClampNeg = i2l9 r.2.1 := (show hJ (M h2) o 0 = _ by rw [m6]; exact hA.out (by decide) hc q2)
    rw [hv]
    refine z_iload (pc := 963) (i := 6) dL_law_963 rfl ?_
    refine z_i2l (pc := 965) dL_law_965 ?_
    refine z_lcmp (pc := 966) dL_law_966 ?_
    refine z_if_eq (pc := 967) 972 dL_law_967 rfl (fun _ => ?_) (fun hc9 => absurd (lg_self _) hc9)
    refine z_goto (pc := 972) 2313 dL_law_972 rfl ?_
    exact z_less [some (sr (some b)), some (sr (some x)), some (sr (some m)), some (sr (some o)), some (si (nI i)), none, none] law_less (kk h2 q2)
theorem dL_law_975 : decode cL_law 975 = .ok (.aload_n 1, 1) := by decide +kernel
theorem dL_law_976 : decode cL_law 976 = .ok (.aload_n 0, 1) := by decide +kernel
theorem dL_law_977 : decode cL_law 977 = .ok (.iload 4, 2) := by decide +kernel
theorem dL_law_979 : decode cL_law 979 = .ok (.iconst 1, 1) := by decide +kernel
theorem dL_law_980 : decode cL_law 980 = .ok (.iadd, 1) := by decide +kernel
theorem dL_law_981 : decode cL_law 981 = .ok (.iaload, 1) := by decide +kernel
theorem dL_law_982 : decode cL_law 982 = .ok (.aload_n 0, 1) := by decide +kernel
theorem dL_law_983 : decode cL_law 983 = .ok (.iload 4, 2) := by decide +kernel
theorem dL_law_985 : decode cL_law 985 = .ok (.iconst 2, 1) := by decide +kernel
theorem dL_law_986 : decode cL_law 986 = .ok (.iadd, 1) := by decide +kernel
theorem dL_law_987 : decode cL_law 987 = .ok (.iaload, 1) := by decide +kernel
theorem dL_law_988 : decode cL_law 988 = .ok (.aload_n 3, 1) := by decide +kernel
theorem dL_law_989 : decode cL_law 989 = .ok (.invokestatic 164, 3) := by decide +kernel
theorem dL_law_992 : decode cL_law 992 = .ok (.istore 5, 2) := by decide +kernel
theorem dL_law_994 : decode cL_law 994 = .ok (.aload_n 2, 1) := by decide +kernel
theorem dL_law_995 : decode cL_law 995 = .ok (.aload_n 0, 1) := by decide +kernel
theorem dL_law_996 : decode cL_law 996 = .ok (.iload 4, 2) := by decide +kernel
theorem dL_law_998 : decode cL_law 998 = .ok (.iconst 1, 1) := by decide +kernel
theorem dL_law_999 : decode cL_law 999 = .ok (.iadd, 1) := by decide +kernel
theorem dL_law_1000 : decode cL_law 1000 = .ok (.iaload, 1) := by decide +kernel
theorem dL_law_1001 : decode cL_law 1001 = .ok (.aload_n 0, 1) := by decide +kernel
theorem dL_law_1002 : decode cL_law 1002 = .ok (.iload 4, 2) := by decide +kernel
theorem dL_law_1004 : decode cL_law 1004 = .ok (.iconst 2, 1) := by decide +kernel
theorem dL_law_1005 : decode cL_law 1005 = .ok (.iadd, 1) := by decide +kernel
theorem dL_law_1006 : decode cL_law 1006 = .ok (.iaload, 1) := by decide +kernel
theorem dL_law_1007 : decode cL_law 1007 = .ok (.invokevirtual 166, 3) := by decide +kernel
theorem dL_law_1010 : decode cL_law 1010 = .ok (.istore 6, 2) := by decide +kernel
theorem dL_law_1012 : decode cL_law 1012 = .ok (.aload_n 2, 1) := by decide +kernel
theorem dL_law_1013 : decode cL_law 1013 = .ok (.invokevirtual 123, 3) := by decide +kernel
theorem dL_law_1016 : decode cL_law 1016 = .ok (.iload 5, 2) := by decide +kernel
theorem dL_law_1018 : decode cL_law 1018 = .ok (.if_icmp .eq 5, 3) := by decide +kernel
theorem dL_law_1023 : decode cL_law 1023 = .ok (.iload 5, 2) := by decide +kernel
theorem dL_law_1025 : decode cL_law 1025 = .ok (.ifCond .ne 15, 3) := by decide +kernel
theorem dL_law_1028 : decode cL_law 1028 = .ok (.aload_n 3, 1) := by decide +kernel
theorem dL_law_1029 : decode cL_law 1029 = .ok (.iconst 0, 1) := by decide +kernel
theorem dL_law_1030 : decode cL_law 1030 = .ok (.laload, 1) := by decide +kernel
theorem dL_law_1031 : decode cL_law 1031 = .ok (.iload 6, 2) := by decide +kernel
theorem dL_law_1033 : decode cL_law 1033 = .ok (.i2l, 1) := by decide +kernel
theorem dL_law_1034 : decode cL_law 1034 = .ok (.lcmp, 1) := by decide +kernel
theorem dL_law_1035 : decode cL_law 1035 = .ok (.ifCond .eq 5, 3) := by decide +kernel
theorem dL_law_1040 : decode cL_law 1040 = .ok (.goto 1273, 3) := by decide +kernel
theorem lkL_164 : Cond.methodLink RL 164 yL_childAt ∈ XW := xw 1014 (by decide +kernel) rfl
theorem lkL_166 : Cond.methodLink RL 166 yX11_childAt ∈ XW := xw 1782 (by decide +kernel) rfl
theorem kL_childAt {nm : String} {hh : List (Nat × Nat × Nat × Nat)} {G : gG} {b L x m o i : Nat} {xs : Nat → Int32} {h h' : hp} {Q : hQ} {K N : Nat} {M : hp → hp} (a : Int32 ⊕ String) (r : aS) (hb : ¬ gb G ≤ b) (hL : L ≤ 2048) (hi : i + 4 ≤ L) (hx : (hT h x).1 = 10) (ho : hT h' o = (24, 1)) (hS : ∀ Q1 : hQ, Q1 (oA a) h' → gS G mX10_childAt 7 2 12 [sr (some x), si (xs (i + 1)), si (xs (i + 2))] h Q1) (hA : An [exI] a r) (hM : ∀ h2, HH h' o i2l9 a h2 → MM G mX11_childAt 2 [si (xs (i + 1)), si (xs (i + 2))] m o r M h2) (kk : ∀ h2, HH h' o i2l9 a h2 → gZ (LF b L xs) G (mLw nm hh) 60 Q 2313 [some (sr (some b)), some (sr (some x)), some (sr (some m)), some (sr (some o)), some (si (nI i)), none, none] [] K N (M h2)) : gZ (LF b L xs) G (mLw nm hh) 60 Q 975 [some (sr (some b)), some (sr (some x)), some (sr (some m)), some (sr (some o)), some (si (nI i)), none, none] [] (2 + K) (12 + N) h := by
  refine z_aload_n (pc := 975) (i := 1) dL_law_975 rfl rfl ?_
  refine y_arg (pc := 976) (i := i) 1 hb hL hi (by decide) rfl dL_law_976 dL_law_977 dL_law_979 dL_law_980 dL_law_981 rfl rfl ?_
  refine y_arg (pc := 982) (i := i) 2 hb hL hi (by decide) rfl dL_law_982 dL_law_983 dL_law_985 dL_law_986 dL_law_987 rfl rfl ?_
  refine z_aload_n (pc := 988) (i := 3) dL_law_988 rfl rfl ?_
  refine y_X (pc := 989) (as := [sr (some x), si (xs (i + 1)), si (xs (i + 2)), sr (some o)]) (st := []) (N := mL_childAt) (k := K) (n := N) (k1 := 2) (n1 := 12) (fun _ z => z.1) dL_law_989 lkL_164 caL_childAt rfl (wL_childAt a hx ho hS (hA.wr o i2l9 h')) ⟨by decide, by decide⟩ (Nat.le_of_ble_eq_true rfl) (fun v h2 q => ?_) (fun E h2 q => nomatch q.1)
  obtain ⟨q1, q2⟩ := q
  have q3 : v = some (si r.1) := Sum.inl.inj q1
  subst q3
  show gZ (LF b L xs) G (mLw nm hh) 60 Q 992 [some (sr (some b)), some (sr (some x)), some (sr (some m)), some (sr (some o)), some (si (nI i)), none, none] [si r.1] K N h2
  obtain ⟨m1, m2, m3, m4, m5, m6⟩ := hM h2 q2
  refine z_istore (pc := 992) (i := 5) [some (sr (some b)), some (sr (some x)), some (sr (some m)), some (sr (some o)), some (si (nI i)), some (si r.1), none] dL_law_992 (show 5 < 7 by decide) rfl rfl ?_
  refine z_aload_n (pc := 994) (i := 2) dL_law_994 rfl rfl ?_
  refine y_arg (pc := 995) (i := i) 1 hb hL hi (by decide) rfl dL_law_995 dL_law_996 dL_law_998 dL_law_999 dL_law_1000 rfl rfl ?_
  refine y_arg (pc := 1001) (i := i) 2 hb hL hi (by decide) rfl dL_law_1001 dL_law_1002 dL_law_1004 dL_law_1005 dL_law_1006 rfl rfl ?_
  refine z_room (k' := 0 + K) (n' := 0 + N) (by omega) (by omega) ?_
  refine y_V (pc := 1007) (as := [si (xs (i + 1)), si (xs (i + 2))]) (st := []) (ci := 10) (N := mX11_childAt) (k := K) (n := N) (k1 := 0) (n1 := 0) dL_law_1007 lkL_166 caX11_childAt cvX11_childAt rfl (by decide) rfl m1 (m2 (fun o9 h9 => o9 = .inl (some (si r.2.1)) ∧ h9 = M h2) ⟨rfl, rfl⟩) ⟨by decide, by decide⟩ (Nat.le_of_ble_eq_true rfl) (fun v h3 q => ?_) (fun E h3 q => nomatch q.1)
  obtain ⟨q1, rfl⟩ := q
  have q3 : v = some (si r.2.1) := Sum.inl.inj q1
  subst q3
  show gZ (LF b L xs) G (mLw nm hh) 60 Q 1010 [some (sr (some b)), some (sr (some x)), some (sr (some m)), some (sr (some o)), some (si (nI i)), some (si r.1), none] [si r.2.1] K N (M h2)
  refine z_istore (pc := 1010) (i := 6) [some (sr (some b)), some (sr (some x)), some (sr (some m)), some (sr (some o)), some (si (nI i)), some (si r.1), some (si r.2.1)] dL_law_1010 (show 6 < 7 by decide) rfl rfl ?_
  refine z_aload_n (pc := 1012) (i := 2) dL_law_1012 rfl rfl ?_
  refine z_room (k' := 0 + K) (n' := 0 + N) (by omega) (by omega) ?_
  refine y_V (pc := 1013) (as := []) (st := []) (ci := 10) (N := mX11_thrown) (k := K) (n := N) (k1 := 0) (n1 := 0) dL_law_1013 lkL_123 caX11_thrown cvX11_thrown rfl (by decide) rfl m3 (m4 (fun o9 h9 => o9 = .inl (some (si r.1)) ∧ h9 = M h2) ⟨rfl, rfl⟩) ⟨by decide, by decide⟩ (Nat.le_of_ble_eq_true rfl) (fun v h3 q => ?_) (fun E h3 q => nomatch q.1)
  obtain ⟨q1, rfl⟩ := q
  have q3 : v = some (si r.1) := Sum.inl.inj q1
  subst q3
  show gZ (LF b L xs) G (mLw nm hh) 60 Q 1016 [some (sr (some b)), some (sr (some x)), some (sr (some m)), some (sr (some o)), some (si (nI i)), some (si r.1), some (si r.2.1)] [si r.1] K N (M h2)
  refine z_iload (pc := 1016) (i := 5) dL_law_1016 rfl ?_
  refine z_icmp_eq (pc := 1018) 1023 dL_law_1018 rfl (fun _ => ?_) (fun hc => absurd rfl hc)
  refine z_iload (pc := 1023) (i := 5) dL_law_1023 rfl ?_
  refine z_if_ne (pc := 1025) 1040 dL_law_1025 rfl (fun hc => ?_) (fun hc => ?_)
  · refine z_goto (pc := 1040) 2313 dL_law_1040 rfl ?_
    exact z_less [some (sr (some b)), some (sr (some x)), some (sr (some m)), some (sr (some o)), some (si (nI i)), none, none] law_less (kk h2 q2)
  · refine z_aload_n (pc := 1028) (i := 3) dL_law_1028 rfl rfl ?_
    refine z_iconst (pc := 1029) (v := 0) dL_law_1029 rfl ?_
    refine z_lald (pc := 1030) dL_law_1030 (by rw [m5]) (by rw [m5]; exact in0) ?_
    have hv : hJ (M h2) o (0 : Int32).toNatClampNeg = i2l9 r.2.1 := (show hJ (M h2) o 0 = _ by rw [m6]; exact hA.out (by decide) hc q2)
    rw [hv]
    refine z_iload (pc := 1031) (i := 6) dL_law_1031 rfl ?_
    refine z_i2l (pc := 1033) dL_law_1033 ?_
    refine z_lcmp (pc := 1034) dL_law_1034 ?_
    refine z_if_eq (pc := 1035) 1040 dL_law_1035 rfl (fun _ => ?_) (fun hc9 => absurd (lg_self _) hc9)
    refine z_goto (pc := 1040) 2313 dL_law_1040 rfl ?_
    exact z_less [some (sr (some b)), some (sr (some x)), some (sr (some m)), some (sr (some o)), some (si (nI i)), none, none] law_less (kk h2 q2)
theorem dL_law_1043 : decode cL_law 1043 = .ok (.aload_n 1, 1) := by decide +kernel
theorem dL_law_1044 : decode cL_law 1044 = .ok (.aload_n 0, 1) := by decide +kernel
theorem dL_law_1045 : decode cL_law 1045 = .ok (.iload 4, 2) := by decide +kernel
theorem dL_law_1047 : decode cL_law 1047 = .ok (.iconst 1, 1) := by decide +kernel
theorem dL_law_1048 : decode cL_law 1048 = .ok (.iadd, 1) := by decide +kernel
theorem dL_law_1049 : decode cL_law 1049 = .ok (.iaload, 1) := by decide +kernel
theorem dL_law_1050 : decode cL_law 1050 = .ok (.aload_n 3, 1) := by decide +kernel
theorem dL_law_1051 : decode cL_law 1051 = .ok (.invokestatic 167, 3) := by decide +kernel
theorem dL_law_1054 : decode cL_law 1054 = .ok (.istore 5, 2) := by decide +kernel
theorem dL_law_1056 : decode cL_law 1056 = .ok (.aload_n 2, 1) := by decide +kernel
theorem dL_law_1057 : decode cL_law 1057 = .ok (.aload_n 0, 1) := by decide +kernel
theorem dL_law_1058 : decode cL_law 1058 = .ok (.iload 4, 2) := by decide +kernel
theorem dL_law_1060 : decode cL_law 1060 = .ok (.iconst 1, 1) := by decide +kernel
theorem dL_law_1061 : decode cL_law 1061 = .ok (.iadd, 1) := by decide +kernel
theorem dL_law_1062 : decode cL_law 1062 = .ok (.iaload, 1) := by decide +kernel
theorem dL_law_1063 : decode cL_law 1063 = .ok (.invokevirtual 169, 3) := by decide +kernel
theorem dL_law_1066 : decode cL_law 1066 = .ok (.istore 6, 2) := by decide +kernel
theorem dL_law_1068 : decode cL_law 1068 = .ok (.aload_n 2, 1) := by decide +kernel
theorem dL_law_1069 : decode cL_law 1069 = .ok (.invokevirtual 123, 3) := by decide +kernel
theorem dL_law_1072 : decode cL_law 1072 = .ok (.iload 5, 2) := by decide +kernel
theorem dL_law_1074 : decode cL_law 1074 = .ok (.if_icmp .eq 5, 3) := by decide +kernel
theorem dL_law_1079 : decode cL_law 1079 = .ok (.iload 5, 2) := by decide +kernel
theorem dL_law_1081 : decode cL_law 1081 = .ok (.ifCond .ne 15, 3) := by decide +kernel
theorem dL_law_1084 : decode cL_law 1084 = .ok (.aload_n 3, 1) := by decide +kernel
theorem dL_law_1085 : decode cL_law 1085 = .ok (.iconst 0, 1) := by decide +kernel
theorem dL_law_1086 : decode cL_law 1086 = .ok (.laload, 1) := by decide +kernel
theorem dL_law_1087 : decode cL_law 1087 = .ok (.iload 6, 2) := by decide +kernel
theorem dL_law_1089 : decode cL_law 1089 = .ok (.i2l, 1) := by decide +kernel
theorem dL_law_1090 : decode cL_law 1090 = .ok (.lcmp, 1) := by decide +kernel
theorem dL_law_1091 : decode cL_law 1091 = .ok (.ifCond .eq 5, 3) := by decide +kernel
theorem dL_law_1096 : decode cL_law 1096 = .ok (.goto 1217, 3) := by decide +kernel
theorem lkL_167 : Cond.methodLink RL 167 yL_nameLength ∈ XW := xw 1023 (by decide +kernel) rfl
theorem lkL_169 : Cond.methodLink RL 169 yX11_nameLength ∈ XW := xw 1786 (by decide +kernel) rfl
theorem kL_nameLength {nm : String} {hh : List (Nat × Nat × Nat × Nat)} {G : gG} {b L x m o i : Nat} {xs : Nat → Int32} {h h' : hp} {Q : hQ} {K N : Nat} {M : hp → hp} (a : Int32 ⊕ String) (r : aS) (hb : ¬ gb G ≤ b) (hL : L ≤ 2048) (hi : i + 4 ≤ L) (hx : (hT h x).1 = 10) (ho : hT h' o = (24, 1)) (hS : ∀ Q1 : hQ, Q1 (oA a) h' → gS G mX10_nameLength 7 1 6 [sr (some x), si (xs (i + 1))] h Q1) (hA : An [exI] a r) (hM : ∀ h2, HH h' o i2l9 a h2 → MM G mX11_nameLength 3 [si (xs (i + 1))] m o r M h2) (kk : ∀ h2, HH h' o i2l9 a h2 → gZ (LF b L xs) G (mLw nm hh) 60 Q 2313 [some (sr (some b)), some (sr (some x)), some (sr (some m)), some (sr (some o)), some (si (nI i)), none, none] [] K N (M h2)) : gZ (LF b L xs) G (mLw nm hh) 60 Q 1043 [some (sr (some b)), some (sr (some x)), some (sr (some m)), some (sr (some o)), some (si (nI i)), none, none] [] (1 + K) (6 + N) h := by
  refine z_aload_n (pc := 1043) (i := 1) dL_law_1043 rfl rfl ?_
  refine y_arg (pc := 1044) (i := i) 1 hb hL hi (by decide) rfl dL_law_1044 dL_law_1045 dL_law_1047 dL_law_1048 dL_law_1049 rfl rfl ?_
  refine z_aload_n (pc := 1050) (i := 3) dL_law_1050 rfl rfl ?_
  refine y_X (pc := 1051) (as := [sr (some x), si (xs (i + 1)), sr (some o)]) (st := []) (N := mL_nameLength) (k := K) (n := N) (k1 := 1) (n1 := 6) (fun _ z => z.1) dL_law_1051 lkL_167 caL_nameLength rfl (wL_nameLength a hx ho hS (hA.wr o i2l9 h')) ⟨by decide, by decide⟩ (Nat.le_of_ble_eq_true rfl) (fun v h2 q => ?_) (fun E h2 q => nomatch q.1)
  obtain ⟨q1, q2⟩ := q
  have q3 : v = some (si r.1) := Sum.inl.inj q1
  subst q3
  show gZ (LF b L xs) G (mLw nm hh) 60 Q 1054 [some (sr (some b)), some (sr (some x)), some (sr (some m)), some (sr (some o)), some (si (nI i)), none, none] [si r.1] K N h2
  obtain ⟨m1, m2, m3, m4, m5, m6⟩ := hM h2 q2
  refine z_istore (pc := 1054) (i := 5) [some (sr (some b)), some (sr (some x)), some (sr (some m)), some (sr (some o)), some (si (nI i)), some (si r.1), none] dL_law_1054 (show 5 < 7 by decide) rfl rfl ?_
  refine z_aload_n (pc := 1056) (i := 2) dL_law_1056 rfl rfl ?_
  refine y_arg (pc := 1057) (i := i) 1 hb hL hi (by decide) rfl dL_law_1057 dL_law_1058 dL_law_1060 dL_law_1061 dL_law_1062 rfl rfl ?_
  refine z_room (k' := 0 + K) (n' := 0 + N) (by omega) (by omega) ?_
  refine y_V (pc := 1063) (as := [si (xs (i + 1))]) (st := []) (ci := 10) (N := mX11_nameLength) (k := K) (n := N) (k1 := 0) (n1 := 0) dL_law_1063 lkL_169 caX11_nameLength cvX11_nameLength rfl (by decide) rfl m1 (m2 (fun o9 h9 => o9 = .inl (some (si r.2.1)) ∧ h9 = M h2) ⟨rfl, rfl⟩) ⟨by decide, by decide⟩ (Nat.le_of_ble_eq_true rfl) (fun v h3 q => ?_) (fun E h3 q => nomatch q.1)
  obtain ⟨q1, rfl⟩ := q
  have q3 : v = some (si r.2.1) := Sum.inl.inj q1
  subst q3
  show gZ (LF b L xs) G (mLw nm hh) 60 Q 1066 [some (sr (some b)), some (sr (some x)), some (sr (some m)), some (sr (some o)), some (si (nI i)), some (si r.1), none] [si r.2.1] K N (M h2)
  refine z_istore (pc := 1066) (i := 6) [some (sr (some b)), some (sr (some x)), some (sr (some m)), some (sr (some o)), some (si (nI i)), some (si r.1), some (si r.2.1)] dL_law_1066 (show 6 < 7 by decide) rfl rfl ?_
  refine z_aload_n (pc := 1068) (i := 2) dL_law_1068 rfl rfl ?_
  refine z_room (k' := 0 + K) (n' := 0 + N) (by omega) (by omega) ?_
  refine y_V (pc := 1069) (as := []) (st := []) (ci := 10) (N := mX11_thrown) (k := K) (n := N) (k1 := 0) (n1 := 0) dL_law_1069 lkL_123 caX11_thrown cvX11_thrown rfl (by decide) rfl m3 (m4 (fun o9 h9 => o9 = .inl (some (si r.1)) ∧ h9 = M h2) ⟨rfl, rfl⟩) ⟨by decide, by decide⟩ (Nat.le_of_ble_eq_true rfl) (fun v h3 q => ?_) (fun E h3 q => nomatch q.1)
  obtain ⟨q1, rfl⟩ := q
  have q3 : v = some (si r.1) := Sum.inl.inj q1
  subst q3
  show gZ (LF b L xs) G (mLw nm hh) 60 Q 1072 [some (sr (some b)), some (sr (some x)), some (sr (some m)), some (sr (some o)), some (si (nI i)), some (si r.1), some (si r.2.1)] [si r.1] K N (M h2)
  refine z_iload (pc := 1072) (i := 5) dL_law_1072 rfl ?_
  refine z_icmp_eq (pc := 1074) 1079 dL_law_1074 rfl (fun _ => ?_) (fun hc => absurd rfl hc)
  refine z_iload (pc := 1079) (i := 5) dL_law_1079 rfl ?_
  refine z_if_ne (pc := 1081) 1096 dL_law_1081 rfl (fun hc => ?_) (fun hc => ?_)
  · refine z_goto (pc := 1096) 2313 dL_law_1096 rfl ?_
    exact z_less [some (sr (some b)), some (sr (some x)), some (sr (some m)), some (sr (some o)), some (si (nI i)), none, none] law_less (kk h2 q2)
  · refine z_aload_n (pc := 1084) (i := 3) dL_law_1084 rfl rfl ?_
    refine z_iconst (pc := 1085) (v := 0) dL_law_1085 rfl ?_
    refine z_lald (pc := 1086) dL_law_1086 (by rw [m5]) (by rw [m5]; exact in0) ?_
    have hv : hJ (M h2) o (0 : Int32).toNatClampNeg = i2l9 r.2.1 := (show hJ (M h2) o 0 = _ by rw [m6]; exact hA.out (by decide) hc q2)
    rw [hv]
    refine z_iload (pc := 1087) (i := 6) dL_law_1087 rfl ?_
    refine z_i2l (pc := 1089) dL_law_1089 ?_
    refine z_lcmp (pc := 1090) dL_law_1090 ?_
    refine z_if_eq (pc := 1091) 1096 dL_law_1091 rfl (fun _ => ?_) (fun hc9 => absurd (lg_self _) hc9)
    refine z_goto (pc := 1096) 2313 dL_law_1096 rfl ?_
    exact z_less [some (sr (some b)), some (sr (some x)), some (sr (some m)), some (sr (some o)), some (si (nI i)), none, none] law_less (kk h2 q2)
