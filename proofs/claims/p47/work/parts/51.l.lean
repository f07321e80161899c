/-! ===== the law's methods over its arrays: their functions and rows ===== -/
theorem dL_removes_0 : decode cL_removes 0 = .ok (.iconst 0, 1) := by decide +kernel
theorem dL_removes_1 : decode cL_removes 1 = .ok (.istore_n 3, 1) := by decide +kernel
theorem dL_removes_2 : decode cL_removes 2 = .ok (.aload_n 1, 1) := by decide +kernel
theorem dL_removes_3 : decode cL_removes 3 = .ok (.bipush 6, 2) := by decide +kernel
theorem dL_removes_5 : decode cL_removes 5 = .ok (.iload_n 2, 1) := by decide +kernel
theorem dL_removes_6 : decode cL_removes 6 = .ok (.imul, 1) := by decide +kernel
theorem dL_removes_7 : decode cL_removes 7 = .ok (.iconst 1, 1) := by decide +kernel
theorem dL_removes_8 : decode cL_removes 8 = .ok (.iadd, 1) := by decide +kernel
theorem dL_removes_9 : decode cL_removes 9 = .ok (.iaload, 1) := by decide +kernel
theorem dL_removes_10 : decode cL_removes 10 = .ok (.istore 4, 2) := by decide +kernel
theorem dL_removes_12 : decode cL_removes 12 = .ok (.aload_n 1, 1) := by decide +kernel
theorem dL_removes_13 : decode cL_removes 13 = .ok (.bipush 6, 2) := by decide +kernel
theorem dL_removes_15 : decode cL_removes 15 = .ok (.iload_n 2, 1) := by decide +kernel
theorem dL_removes_16 : decode cL_removes 16 = .ok (.imul, 1) := by decide +kernel
theorem dL_removes_17 : decode cL_removes 17 = .ok (.iconst 2, 1) := by decide +kernel
theorem dL_removes_18 : decode cL_removes 18 = .ok (.iadd, 1) := by decide +kernel
theorem dL_removes_19 : decode cL_removes 19 = .ok (.iaload, 1) := by decide +kernel
theorem dL_removes_20 : decode cL_removes 20 = .ok (.istore 5, 2) := by decide +kernel
theorem dL_removes_22 : decode cL_removes 22 = .ok (.aload_n 0, 1) := by decide +kernel
theorem dL_removes_23 : decode cL_removes 23 = .ok (.iconst 0, 1) := by decide +kernel
theorem dL_removes_24 : decode cL_removes 24 = .ok (.iaload, 1) := by decide +kernel
theorem dL_removes_25 : decode cL_removes 25 = .ok (.iconst 1, 1) := by decide +kernel
theorem dL_removes_26 : decode cL_removes 26 = .ok (.isub, 1) := by decide +kernel
theorem dL_removes_27 : decode cL_removes 27 = .ok (.istore 6, 2) := by decide +kernel
theorem dL_removes_29 : decode cL_removes 29 = .ok (.iload 6, 2) := by decide +kernel
theorem dL_removes_31 : decode cL_removes 31 = .ok (.ifCond .le 89, 3) := by decide +kernel
theorem dL_removes_34 : decode cL_removes 34 = .ok (.iload 6, 2) := by decide +kernel
theorem dL_removes_36 : decode cL_removes 36 = .ok (.istore 7, 2) := by decide +kernel
theorem dL_removes_38 : decode cL_removes 38 = .ok (.iload 7, 2) := by decide +kernel
theorem dL_removes_40 : decode cL_removes 40 = .ok (.ifCond .lt 23, 3) := by decide +kernel
theorem dL_removes_43 : decode cL_removes 43 = .ok (.iload 7, 2) := by decide +kernel
theorem dL_removes_45 : decode cL_removes 45 = .ok (.iload_n 2, 1) := by decide +kernel
theorem dL_removes_46 : decode cL_removes 46 = .ok (.if_icmp .eq 17, 3) := by decide +kernel
theorem dL_removes_49 : decode cL_removes 49 = .ok (.aload_n 1, 1) := by decide +kernel
theorem dL_removes_50 : decode cL_removes 50 = .ok (.bipush 6, 2) := by decide +kernel
theorem dL_removes_52 : decode cL_removes 52 = .ok (.iload 7, 2) := by decide +kernel
theorem dL_removes_54 : decode cL_removes 54 = .ok (.imul, 1) := by decide +kernel
theorem dL_removes_55 : decode cL_removes 55 = .ok (.iconst 1, 1) := by decide +kernel
theorem dL_removes_56 : decode cL_removes 56 = .ok (.iadd, 1) := by decide +kernel
theorem dL_removes_57 : decode cL_removes 57 = .ok (.iaload, 1) := by decide +kernel
theorem dL_removes_58 : decode cL_removes 58 = .ok (.istore 7, 2) := by decide +kernel
theorem dL_removes_60 : decode cL_removes 60 = .ok (.goto (-22), 3) := by decide +kernel
theorem dL_removes_63 : decode cL_removes 63 = .ok (.iload_n 3, 1) := by decide +kernel
theorem dL_removes_64 : decode cL_removes 64 = .ok (.iload 7, 2) := by decide +kernel
theorem dL_removes_66 : decode cL_removes 66 = .ok (.iload_n 2, 1) := by decide +kernel
theorem dL_removes_67 : decode cL_removes 67 = .ok (.if_icmp .ne 16, 3) := by decide +kernel
theorem dL_removes_70 : decode cL_removes 70 = .ok (.aload_n 1, 1) := by decide +kernel
theorem dL_removes_71 : decode cL_removes 71 = .ok (.iload 6, 2) := by decide +kernel
theorem dL_removes_73 : decode cL_removes 73 = .ok (.invokestatic 7, 3) := by decide +kernel
theorem dL_removes_76 : decode cL_removes 76 = .ok (.ifCond .eq 7, 3) := by decide +kernel
theorem dL_removes_79 : decode cL_removes 79 = .ok (.iconst 1, 1) := by decide +kernel
theorem dL_removes_80 : decode cL_removes 80 = .ok (.goto 4, 3) := by decide +kernel
theorem dL_removes_83 : decode cL_removes 83 = .ok (.iconst 0, 1) := by decide +kernel
theorem dL_removes_84 : decode cL_removes 84 = .ok (.iadd, 1) := by decide +kernel
theorem dL_removes_85 : decode cL_removes 85 = .ok (.istore_n 3, 1) := by decide +kernel
theorem dL_removes_86 : decode cL_removes 86 = .ok (.aload_n 1, 1) := by decide +kernel
theorem dL_removes_87 : decode cL_removes 87 = .ok (.bipush 6, 2) := by decide +kernel
theorem dL_removes_89 : decode cL_removes 89 = .ok (.iload 6, 2) := by decide +kernel
theorem dL_removes_91 : decode cL_removes 91 = .ok (.imul, 1) := by decide +kernel
theorem dL_removes_92 : decode cL_removes 92 = .ok (.iconst 3, 1) := by decide +kernel
theorem dL_removes_93 : decode cL_removes 93 = .ok (.iadd, 1) := by decide +kernel
theorem dL_removes_94 : decode cL_removes 94 = .ok (.iload 7, 2) := by decide +kernel
theorem dL_removes_96 : decode cL_removes 96 = .ok (.iload_n 2, 1) := by decide +kernel
theorem dL_removes_97 : decode cL_removes 97 = .ok (.if_icmp .ne 7, 3) := by decide +kernel
theorem dL_removes_100 : decode cL_removes 100 = .ok (.iconst 0, 1) := by decide +kernel
theorem dL_removes_101 : decode cL_removes 101 = .ok (.goto 12, 3) := by decide +kernel
theorem dL_removes_104 : decode cL_removes 104 = .ok (.aload_n 1, 1) := by decide +kernel
theorem dL_removes_105 : decode cL_removes 105 = .ok (.bipush 6, 2) := by decide +kernel
theorem dL_removes_107 : decode cL_removes 107 = .ok (.iload 6, 2) := by decide +kernel
theorem dL_removes_109 : decode cL_removes 109 = .ok (.imul, 1) := by decide +kernel
theorem dL_removes_110 : decode cL_removes 110 = .ok (.iconst 3, 1) := by decide +kernel
theorem dL_removes_111 : decode cL_removes 111 = .ok (.iadd, 1) := by decide +kernel
theorem dL_removes_112 : decode cL_removes 112 = .ok (.iaload, 1) := by decide +kernel
theorem dL_removes_113 : decode cL_removes 113 = .ok (.iastore, 1) := by decide +kernel
theorem dL_removes_114 : decode cL_removes 114 = .ok (.iinc 6 (-1), 3) := by decide +kernel
theorem dL_removes_117 : decode cL_removes 117 = .ok (.goto (-88), 3) := by decide +kernel
theorem dL_removes_120 : decode cL_removes 120 = .ok (.iconst 1, 1) := by decide +kernel
theorem dL_removes_121 : decode cL_removes 121 = .ok (.istore 6, 2) := by decide +kernel
theorem dL_removes_123 : decode cL_removes 123 = .ok (.iload 6, 2) := by decide +kernel
theorem dL_removes_125 : decode cL_removes 125 = .ok (.aload_n 0, 1) := by decide +kernel
theorem dL_removes_126 : decode cL_removes 126 = .ok (.iconst 0, 1) := by decide +kernel
theorem dL_removes_127 : decode cL_removes 127 = .ok (.iaload, 1) := by decide +kernel
theorem dL_removes_128 : decode cL_removes 128 = .ok (.if_icmp .ge 54, 3) := by decide +kernel
theorem dL_removes_131 : decode cL_removes 131 = .ok (.aload_n 1, 1) := by decide +kernel
theorem dL_removes_132 : decode cL_removes 132 = .ok (.bipush 6, 2) := by decide +kernel
theorem dL_removes_134 : decode cL_removes 134 = .ok (.iload 6, 2) := by decide +kernel
theorem dL_removes_136 : decode cL_removes 136 = .ok (.imul, 1) := by decide +kernel
theorem dL_removes_137 : decode cL_removes 137 = .ok (.iconst 2, 1) := by decide +kernel
theorem dL_removes_138 : decode cL_removes 138 = .ok (.iadd, 1) := by decide +kernel
theorem dL_removes_139 : decode cL_removes 139 = .ok (.dup2, 1) := by decide +kernel
theorem dL_removes_140 : decode cL_removes 140 = .ok (.iaload, 1) := by decide +kernel
theorem dL_removes_141 : decode cL_removes 141 = .ok (.aload_n 1, 1) := by decide +kernel
theorem dL_removes_142 : decode cL_removes 142 = .ok (.bipush 6, 2) := by decide +kernel
theorem dL_removes_144 : decode cL_removes 144 = .ok (.iload 6, 2) := by decide +kernel
theorem dL_removes_146 : decode cL_removes 146 = .ok (.imul, 1) := by decide +kernel
theorem dL_removes_147 : decode cL_removes 147 = .ok (.iconst 1, 1) := by decide +kernel
theorem dL_removes_148 : decode cL_removes 148 = .ok (.iadd, 1) := by decide +kernel
theorem dL_removes_149 : decode cL_removes 149 = .ok (.iaload, 1) := by decide +kernel
theorem dL_removes_150 : decode cL_removes 150 = .ok (.iload 4, 2) := by decide +kernel
theorem dL_removes_152 : decode cL_removes 152 = .ok (.if_icmp .ne 21, 3) := by decide +kernel
theorem dL_removes_155 : decode cL_removes 155 = .ok (.aload_n 1, 1) := by decide +kernel
theorem dL_removes_156 : decode cL_removes 156 = .ok (.bipush 6, 2) := by decide +kernel
theorem dL_removes_158 : decode cL_removes 158 = .ok (.iload 6, 2) := by decide +kernel
theorem dL_removes_160 : decode cL_removes 160 = .ok (.imul, 1) := by decide +kernel
theorem dL_removes_161 : decode cL_removes 161 = .ok (.iconst 2, 1) := by decide +kernel
theorem dL_removes_162 : decode cL_removes 162 = .ok (.iadd, 1) := by decide +kernel
theorem dL_removes_163 : decode cL_removes 163 = .ok (.iaload, 1) := by decide +kernel
theorem dL_removes_164 : decode cL_removes 164 = .ok (.iload 5, 2) := by decide +kernel
theorem dL_removes_166 : decode cL_removes 166 = .ok (.if_icmp .le 7, 3) := by decide +kernel
theorem dL_removes_169 : decode cL_removes 169 = .ok (.iconst 1, 1) := by decide +kernel
theorem dL_removes_170 : decode cL_removes 170 = .ok (.goto 4, 3) := by decide +kernel
theorem dL_removes_173 : decode cL_removes 173 = .ok (.iconst 0, 1) := by decide +kernel
theorem dL_removes_174 : decode cL_removes 174 = .ok (.isub, 1) := by decide +kernel
theorem dL_removes_175 : decode cL_removes 175 = .ok (.iastore, 1) := by decide +kernel
theorem dL_removes_176 : decode cL_removes 176 = .ok (.iinc 6 1, 3) := by decide +kernel
theorem dL_removes_179 : decode cL_removes 179 = .ok (.goto (-56), 3) := by decide +kernel
theorem dL_removes_182 : decode cL_removes 182 = .ok (.aload_n 0, 1) := by decide +kernel
theorem dL_removes_183 : decode cL_removes 183 = .ok (.aload_n 1, 1) := by decide +kernel
theorem dL_removes_184 : decode cL_removes 184 = .ok (.iload 4, 2) := by decide +kernel
theorem dL_removes_186 : decode cL_removes 186 = .ok (.iload 5, 2) := by decide +kernel
theorem dL_removes_188 : decode cL_removes 188 = .ok (.invokestatic 219, 3) := by decide +kernel
theorem dL_removes_191 : decode cL_removes 191 = .ok (.iload_n 3, 1) := by decide +kernel
theorem dL_removes_192 : decode cL_removes 192 = .ok (.ireturn, 1) := by decide +kernel
abbrev mL_removes : gM := (yL_removes, cL_removes, 8, (Option.some FieldType.int), [])
theorem caL_removes : cal mL_removes 3 := ⟨xw 1264 (by decide +kernel) rfl, xw 28 (by decide +kernel) rfl, by decide, by decide +kernel⟩
theorem csL_removes : Cond.static yL_removes ∈ XW := xw 1263 (by decide +kernel) rfl
theorem lkL_219 : Cond.methodLink RL 219 yL_loses ∈ XW := xw 943 (by decide +kernel) rfl
/-! BrailleDeskLaw.removes -/
theorem lL_removes_38 {G : gG} {Q : hQ} {P : Int32 → Prop} {k n : Nat} (c0 : (Option Nat)) (c1 : (Option Nat)) (c2 : Int32) (c3 : Int32) (c4 : Int32) (c5 : Int32) (c6 : Int32) (h : hp) (hJ : ∀ q : Int32, P q → gV G mL_removes 3 Q 63 [some (sr c0), some (sr c1), some (si c2), some (si c3), some (si c4), some (si c5), some (si c6), some (si q)] [] (k) (n) h) : ∀ (fu : Nat) (a : Int32), okB (itr (fL_removes_B38 c0 c1 c2 c3 c4 c5 c6 h) fu a) P → gV G mL_removes 3 Q 38 [some (sr c0), some (sr c1), some (si c2), some (si c3), some (si c4), some (si c5), some (si c6), some (si a)] [] (k) (n) h :=
  lpg (X := fun (a : Int32) => gV G mL_removes 3 Q 38 [some (sr c0), some (sr c1), some (si c2), some (si c3), some (si c4), some (si c5), some (si c6), some (si a)] [] (k) (n) h) (fun a P2 hL hE hF => by
    delta fL_removes_B38 at hF
    refine v_iload (pc := 38) (i := 7) dL_removes_38 rfl ?_
    refine v_if_lt (pc := 40) 63 dL_removes_40 rfl (fun hc => ?_) (fun hc => ?_)
    · replace hF := (okB_if hF).1 hc
      exact v_lle [some (sr c0), some (sr c1), some (si c2), some (si c3), some (si c4), some (si c5), some (si c6), some (si a)] ⟨rfl, rfl, rfl, rfl, rfl, rfl, rfl, rfl, trivial⟩ (hJ a (hE _ (okB_some hF)))
    replace hF := (okB_if hF).2 hc
    refine v_iload (pc := 43) (i := 7) dL_removes_43 rfl ?_
    refine v_iload_n (pc := 45) (i := 2) dL_removes_45 rfl rfl ?_
    refine v_icmp_eq (pc := 46) 63 dL_removes_46 rfl (fun hc => ?_) (fun hc => ?_)
    · replace hF := (okB_if hF).1 hc
      exact v_lle [some (sr c0), some (sr c1), some (si c2), some (si c3), some (si c4), some (si c5), some (si c6), some (si a)] ⟨rfl, rfl, rfl, rfl, rfl, rfl, rfl, rfl, trivial⟩ (hJ a (hE _ (okB_some hF)))
    replace hF := (okB_if hF).2 hc
    refine v_aload_n (pc := 49) (i := 1) dL_removes_49 rfl rfl ?_
    refine v_bipush (pc := 50) (v := (6 : Int32)) dL_removes_50 rfl ?_
    refine v_iload (pc := 52) (i := 7) dL_removes_52 rfl ?_
    refine v_imul (pc := 54) dL_removes_54 ?_
    refine v_iconst (pc := 55) (v := (1 : Int32)) dL_removes_55 rfl ?_
    refine v_iadd (pc := 56) dL_removes_56 ?_
    refine s_iald (pc := 57) dL_removes_57 hF (fun x1 hF => ?_)
    refine v_istore (pc := 58) (i := 7) [some (sr c0), some (sr c1), some (si c2), some (si c3), some (si c4), some (si c5), some (si c6), some (si x1)] dL_removes_58 (by decide) rfl rfl ?_
    refine v_goto (pc := 60) 38 dL_removes_60 rfl ?_
    exact v_lle [some (sr c0), some (sr c1), some (si c2), some (si c3), some (si c4), some (si c5), some (si c6), some (si x1)] ⟨rfl, rfl, rfl, rfl, rfl, rfl, rfl, rfl, trivial⟩ (hL x1 (okB_some hF)))
theorem lL_removes_29 {G : gG} {Q : hQ} {P : (Int32 × hp) → Prop} {k n : Nat} (c0 : (Option Nat)) (c1 : (Option Nat)) (c2 : Int32) (c4 : Int32) (c5 : Int32) (hJ : ∀ q : (Int32 × hp), P q → gV G mL_removes 3 Q 120 [some (sr c0), some (sr c1), none, some (si q.1), some (si c4), some (si c5), none, none] [] (k) (n) q.2) : ∀ (fu : Nat) (a : (Int32 × Int32 × hp)), okB (itr (fL_removes_B29 c0 c1 c2 c4 c5) fu a) P → gV G mL_removes 3 Q 29 [some (sr c0), some (sr c1), some (si c2), some (si a.1), some (si c4), some (si c5), some (si a.2.1), none] [] (k) (n) a.2.2 :=
  lpg (X := fun (a : (Int32 × Int32 × hp)) => gV G mL_removes 3 Q 29 [some (sr c0), some (sr c1), some (si c2), some (si a.1), some (si c4), some (si c5), some (si a.2.1), none] [] (k) (n) a.2.2) (fun a P2 hL hE hF => by
    delta fL_removes_B29 at hF
    refine v_iload (pc := 29) (i := 6) dL_removes_29 rfl ?_
    refine v_if_le (pc := 31) 120 dL_removes_31 rfl (fun hc => ?_) (fun hc => ?_)
    · replace hF := (okB_if hF).1 hc
      exact v_lle [some (sr c0), some (sr c1), none, some (si a.1), some (si c4), some (si c5), none, none] ⟨rfl, rfl, rfl, rfl, rfl, trivial⟩ (hJ (a.1, a.2.2) (hE _ (okB_some hF)))
    replace hF := (okB_if hF).2 hc
    refine v_iload (pc := 34) (i := 6) dL_removes_34 rfl ?_
    refine v_istore (pc := 36) (i := 7) [some (sr c0), some (sr c1), some (si c2), some (si a.1), some (si c4), some (si c5), some (si a.2.1), some (si a.2.1)] dL_removes_36 (by decide) rfl rfl ?_
    refine mg (X := fun q1 => gV G mL_removes 3 Q 63 [some (sr c0), some (sr c1), some (si c2), some (si a.1), some (si c4), some (si c5), some (si a.2.1), some (si q1)] [] (k) (n) a.2.2) hF (fun _ hj8 hF => v_lle [some (sr c0), some (sr c1), some (si c2), some (si a.1), some (si c4), some (si c5), some (si a.2.1), some (si a.2.1)] ⟨rfl, rfl, rfl, rfl, rfl, rfl, rfl, rfl, trivial⟩ (lL_removes_38 c0 c1 c2 a.1 c4 c5 a.2.1 a.2.2 hj8 FU a.2.1 hF)) (fun q1 hF => ?_)
    refine v_iload_n (pc := 63) (i := 3) dL_removes_63 rfl rfl ?_
    refine v_iload (pc := 64) (i := 7) dL_removes_64 rfl ?_
    refine v_iload_n (pc := 66) (i := 2) dL_removes_66 rfl rfl ?_
    refine mg (X := fun q2 => gV G mL_removes 3 Q 84 [some (sr c0), some (sr c1), some (si c2), none, some (si c4), some (si c5), some (si a.2.1), some (si q1)] [si q2, si a.1] (k) (n) a.2.2) hF (fun _ hj3 hF => ?_) (fun q2 hF => ?_)
    · refine v_icmp_ne (pc := 67) 83 dL_removes_67 rfl (fun hc => ?_) (fun hc => ?_)
      · replace hF := (okB_if hF).2 hc
        refine v_iconst (pc := 83) (v := (0 : Int32)) dL_removes_83 rfl ?_
        exact v_lle [some (sr c0), some (sr c1), some (si c2), none, some (si c4), some (si c5), some (si a.2.1), some (si q1)] ⟨rfl, rfl, rfl, rfl, rfl, rfl, rfl, trivial⟩ (hj3 (0 : Int32) (okB_some hF))
      replace hF := (okB_if hF).1 hc
      refine v_aload_n (pc := 70) (i := 1) dL_removes_70 rfl rfl ?_
      refine v_iload (pc := 71) (i := 6) dL_removes_71 rfl ?_
      refine cp_S (pc := 73) gI (as := [sr c1, si a.2.1]) (st := [si a.1]) (N := mL_isThere) (k := k) (n := n) (k1 := 0) (n1 := 0) dL_removes_73 lkL_7 caL_isThere csL_isThere rfl (fun Q1 hq => tL_isThere c1 a.2.1 a.2.2 Q1 hq) ⟨by decide, by decide⟩ (Nat.le_of_ble_eq_true rfl) rfl hF (fun x4 hF => ?_)
      show gV G mL_removes 3 Q 76 [some (sr c0), some (sr c1), some (si c2), some (si a.1), some (si c4), some (si c5), some (si a.2.1), some (si q1)] [si x4, si a.1] (k) (n) a.2.2
      refine v_if_eq (pc := 76) 83 dL_removes_76 rfl (fun hc => ?_) (fun hc => ?_)
      · replace hF := (okB_if hF).1 hc
        refine v_iconst (pc := 83) (v := (0 : Int32)) dL_removes_83 rfl ?_
        exact v_lle [some (sr c0), some (sr c1), some (si c2), none, some (si c4), some (si c5), some (si a.2.1), some (si q1)] ⟨rfl, rfl, rfl, rfl, rfl, rfl, rfl, trivial⟩ (hj3 (0 : Int32) (okB_some hF))
      replace hF := (okB_if hF).2 hc
      refine v_iconst (pc := 79) (v := (1 : Int32)) dL_removes_79 rfl ?_
      refine v_goto (pc := 80) 84 dL_removes_80 rfl ?_
      exact v_lle [some (sr c0), some (sr c1), some (si c2), none, some (si c4), some (si c5), some (si a.2.1), some (si q1)] ⟨rfl, rfl, rfl, rfl, rfl, rfl, rfl, trivial⟩ (hj3 (1 : Int32) (okB_some hF))
    refine v_iadd (pc := 84) dL_removes_84 ?_
    refine v_istore_n (pc := 85) (i := 3) [some (sr c0), some (sr c1), some (si c2), some (si (a.1 + q2)), some (si c4), some (si c5), some (si a.2.1), some (si q1)] dL_removes_85 rfl (by decide) rfl rfl ?_
    refine v_aload_n (pc := 86) (i := 1) dL_removes_86 rfl rfl ?_
    refine v_bipush (pc := 87) (v := (6 : Int32)) dL_removes_87 rfl ?_
    refine v_iload (pc := 89) (i := 6) dL_removes_89 rfl ?_
    refine v_imul (pc := 91) dL_removes_91 ?_
    refine v_iconst (pc := 92) (v := (3 : Int32)) dL_removes_92 rfl ?_
    refine v_iadd (pc := 93) dL_removes_93 ?_
    refine v_iload (pc := 94) (i := 7) dL_removes_94 rfl ?_
    refine v_iload_n (pc := 96) (i := 2) dL_removes_96 rfl rfl ?_
    refine v_icmp_ne (pc := 97) 104 dL_removes_97 rfl (fun hc => ?_) (fun hc => ?_)
    · replace hF := (okB_if hF).2 hc
      refine v_aload_n (pc := 104) (i := 1) dL_removes_104 rfl rfl ?_
      refine v_bipush (pc := 105) (v := (6 : Int32)) dL_removes_105 rfl ?_
      refine v_iload (pc := 107) (i := 6) dL_removes_107 rfl ?_
      refine v_imul (pc := 109) dL_removes_109 ?_
      refine v_iconst (pc := 110) (v := (3 : Int32)) dL_removes_110 rfl ?_
      refine v_iadd (pc := 111) dL_removes_111 ?_
      refine s_iald (pc := 112) dL_removes_112 hF (fun x5 hF => ?_)
      refine s_iast (pc := 113) dL_removes_113 hF (fun h6 hF => ?_)
      refine v_iinc (pc := 114) (i := 6) (a.2.1 + (-1 : Int32)) [some (sr c0), some (sr c1), some (si c2), some (si (a.1 + q2)), some (si c4), some (si c5), some (si (a.2.1 + (-1 : Int32))), some (si q1)] dL_removes_114 rfl rfl rfl rfl ?_
      refine v_goto (pc := 117) 29 dL_removes_117 rfl ?_
      exact v_lle [some (sr c0), some (sr c1), some (si c2), some (si (a.1 + q2)), some (si c4), some (si c5), some (si (a.2.1 + (-1 : Int32))), none] ⟨rfl, rfl, rfl, rfl, rfl, rfl, rfl, trivial⟩ (hL (a.1 + q2, a.2.1 + (-1 : Int32), h6) (okB_some hF))
    replace hF := (okB_if hF).1 hc
    refine v_iconst (pc := 100) (v := (0 : Int32)) dL_removes_100 rfl ?_
    refine v_goto (pc := 101) 113 dL_removes_101 rfl ?_
    refine s_iast (pc := 113) dL_removes_113 hF (fun h7 hF => ?_)
    refine v_iinc (pc := 114) (i := 6) (a.2.1 + (-1 : Int32)) [some (sr c0), some (sr c1), some (si c2), some (si (a.1 + q2)), some (si c4), some (si c5), some (si (a.2.1 + (-1 : Int32))), some (si q1)] dL_removes_114 rfl rfl rfl rfl ?_
    refine v_goto (pc := 117) 29 dL_removes_117 rfl ?_
    exact v_lle [some (sr c0), some (sr c1), some (si c2), some (si (a.1 + q2)), some (si c4), some (si c5), some (si (a.2.1 + (-1 : Int32))), none] ⟨rfl, rfl, rfl, rfl, rfl, rfl, rfl, trivial⟩ (hL (a.1 + q2, a.2.1 + (-1 : Int32), h7) (okB_some hF)))
theorem lL_removes_123 {G : gG} {Q : hQ} {P : hp → Prop} {k n : Nat} (c0 : (Option Nat)) (c1 : (Option Nat)) (c3 : Int32) (c4 : Int32) (c5 : Int32) (hJ : ∀ q : hp, P q → gV G mL_removes 3 Q 182 [some (sr c0), some (sr c1), none, some (si c3), some (si c4), some (si c5), none, none] [] (k) (n) q) : ∀ (fu : Nat) (a : (Int32 × hp)), okB (itr (fL_removes_B123 c0 c1 c3 c4 c5) fu a) P → gV G mL_removes 3 Q 123 [some (sr c0), some (sr c1), none, some (si c3), some (si c4), some (si c5), some (si a.1), none] [] (k) (n) a.2 :=
  lpg (X := fun (a : (Int32 × hp)) => gV G mL_removes 3 Q 123 [some (sr c0), some (sr c1), none, some (si c3), some (si c4), some (si c5), some (si a.1), none] [] (k) (n) a.2) (fun a P2 hL hE hF => by
    delta fL_removes_B123 at hF
    refine v_iload (pc := 123) (i := 6) dL_removes_123 rfl ?_
    refine v_aload_n (pc := 125) (i := 0) dL_removes_125 rfl rfl ?_
    refine v_iconst (pc := 126) (v := (0 : Int32)) dL_removes_126 rfl ?_
    refine s_iald (pc := 127) dL_removes_127 hF (fun x1 hF => ?_)
    refine v_icmp_ge (pc := 128) 182 dL_removes_128 rfl (fun hc => ?_) (fun hc => ?_)
    · replace hF := (okB_if hF).1 hc
      exact v_lle [some (sr c0), some (sr c1), none, some (si c3), some (si c4), some (si c5), none, none] ⟨rfl, rfl, rfl, rfl, rfl, trivial⟩ (hJ a.2 (hE _ (okB_some hF)))
    replace hF := (okB_if hF).2 hc
    refine v_aload_n (pc := 131) (i := 1) dL_removes_131 rfl rfl ?_
    refine v_bipush (pc := 132) (v := (6 : Int32)) dL_removes_132 rfl ?_
    refine v_iload (pc := 134) (i := 6) dL_removes_134 rfl ?_
    refine v_imul (pc := 136) dL_removes_136 ?_
    refine v_iconst (pc := 137) (v := (2 : Int32)) dL_removes_137 rfl ?_
    refine v_iadd (pc := 138) dL_removes_138 ?_
    refine v_dup2 (pc := 139) dL_removes_139 rfl rfl ?_
    refine s_iald (pc := 140) dL_removes_140 hF (fun x2 hF => ?_)
    refine v_aload_n (pc := 141) (i := 1) dL_removes_141 rfl rfl ?_
    refine v_bipush (pc := 142) (v := (6 : Int32)) dL_removes_142 rfl ?_
    refine v_iload (pc := 144) (i := 6) dL_removes_144 rfl ?_
    refine v_imul (pc := 146) dL_removes_146 ?_
    refine v_iconst (pc := 147) (v := (1 : Int32)) dL_removes_147 rfl ?_
    refine v_iadd (pc := 148) dL_removes_148 ?_
    refine s_iald (pc := 149) dL_removes_149 hF (fun x3 hF => ?_)
    refine v_iload (pc := 150) (i := 4) dL_removes_150 rfl ?_
    refine v_icmp_ne (pc := 152) 173 dL_removes_152 rfl (fun hc => ?_) (fun hc => ?_)
    · replace hF := (okB_if hF).2 hc
      refine v_iconst (pc := 173) (v := (0 : Int32)) dL_removes_173 rfl ?_
      refine v_isub (pc := 174) dL_removes_174 ?_
      refine s_iast (pc := 175) dL_removes_175 hF (fun h4 hF => ?_)
      refine v_iinc (pc := 176) (i := 6) (a.1 + (1 : Int32)) [some (sr c0), some (sr c1), none, some (si c3), some (si c4), some (si c5), some (si (a.1 + (1 : Int32))), none] dL_removes_176 rfl rfl rfl rfl ?_
      refine v_goto (pc := 179) 123 dL_removes_179 rfl ?_
      exact v_lle [some (sr c0), some (sr c1), none, some (si c3), some (si c4), some (si c5), some (si (a.1 + (1 : Int32))), none] ⟨rfl, rfl, rfl, rfl, rfl, rfl, trivial⟩ (hL (a.1 + (1 : Int32), h4) (okB_some hF))
    replace hF := (okB_if hF).1 hc
    refine v_aload_n (pc := 155) (i := 1) dL_removes_155 rfl rfl ?_
    refine v_bipush (pc := 156) (v := (6 : Int32)) dL_removes_156 rfl ?_
    refine v_iload (pc := 158) (i := 6) dL_removes_158 rfl ?_
    refine v_imul (pc := 160) dL_removes_160 ?_
    refine v_iconst (pc := 161) (v := (2 : Int32)) dL_removes_161 rfl ?_
    refine v_iadd (pc := 162) dL_removes_162 ?_
    refine s_iald (pc := 163) dL_removes_163 hF (fun x5 hF => ?_)
    refine v_iload (pc := 164) (i := 5) dL_removes_164 rfl ?_
    refine v_icmp_le (pc := 166) 173 dL_removes_166 rfl (fun hc => ?_) (fun hc => ?_)
    · replace hF := (okB_if hF).1 hc
      refine v_iconst (pc := 173) (v := (0 : Int32)) dL_removes_173 rfl ?_
      refine v_isub (pc := 174) dL_removes_174 ?_
      refine s_iast (pc := 175) dL_removes_175 hF (fun h6 hF => ?_)
      refine v_iinc (pc := 176) (i := 6) (a.1 + (1 : Int32)) [some (sr c0), some (sr c1), none, some (si c3), some (si c4), some (si c5), some (si (a.1 + (1 : Int32))), none] dL_removes_176 rfl rfl rfl rfl ?_
      refine v_goto (pc := 179) 123 dL_removes_179 rfl ?_
      exact v_lle [some (sr c0), some (sr c1), none, some (si c3), some (si c4), some (si c5), some (si (a.1 + (1 : Int32))), none] ⟨rfl, rfl, rfl, rfl, rfl, rfl, trivial⟩ (hL (a.1 + (1 : Int32), h6) (okB_some hF))
    replace hF := (okB_if hF).2 hc
    refine v_iconst (pc := 169) (v := (1 : Int32)) dL_removes_169 rfl ?_
    refine v_goto (pc := 170) 174 dL_removes_170 rfl ?_
    refine v_isub (pc := 174) dL_removes_174 ?_
    refine s_iast (pc := 175) dL_removes_175 hF (fun h7 hF => ?_)
    refine v_iinc (pc := 176) (i := 6) (a.1 + (1 : Int32)) [some (sr c0), some (sr c1), none, some (si c3), some (si c4), some (si c5), some (si (a.1 + (1 : Int32))), none] dL_removes_176 rfl rfl rfl rfl ?_
    refine v_goto (pc := 179) 123 dL_removes_179 rfl ?_
    exact v_lle [some (sr c0), some (sr c1), none, some (si c3), some (si c4), some (si c5), some (si (a.1 + (1 : Int32))), none] ⟨rfl, rfl, rfl, rfl, rfl, rfl, trivial⟩ (hL (a.1 + (1 : Int32), h7) (okB_some hF)))
theorem tL_removes {G : gG} (a0 : (Option Nat)) (a1 : (Option Nat)) (a2 : Int32) (h : hp) (Q : hQ) (hF : okB (fL_removes a0 a1 a2 h) (pH gI Q)) : gS G mL_removes 3 0 0 [sr a0, sr a1, si a2] h Q := by
  delta fL_removes at hF
  refine gS_at [some (sr a0), some (sr a1), some (si a2), none, none, none, none, none] pl_L rfl (Nat.le_of_ble_eq_true rfl) rfl ?_
  refine v_iconst (pc := 0) (v := (0 : Int32)) dL_removes_0 rfl ?_
  refine v_istore_n (pc := 1) (i := 3) [some (sr a0), some (sr a1), some (si a2), some (si (0 : Int32)), none, none, none, none] dL_removes_1 rfl (by decide) rfl rfl ?_
  refine v_aload_n (pc := 2) (i := 1) dL_removes_2 rfl rfl ?_
  refine v_bipush (pc := 3) (v := (6 : Int32)) dL_removes_3 rfl ?_
  refine v_iload_n (pc := 5) (i := 2) dL_removes_5 rfl rfl ?_
  refine v_imul (pc := 6) dL_removes_6 ?_
  refine v_iconst (pc := 7) (v := (1 : Int32)) dL_removes_7 rfl ?_
  refine v_iadd (pc := 8) dL_removes_8 ?_
  refine s_iald (pc := 9) dL_removes_9 hF (fun x1 hF => ?_)
  refine v_istore (pc := 10) (i := 4) [some (sr a0), some (sr a1), some (si a2), some (si (0 : Int32)), some (si x1), none, none, none] dL_removes_10 (by decide) rfl rfl ?_
  refine v_aload_n (pc := 12) (i := 1) dL_removes_12 rfl rfl ?_
  refine v_bipush (pc := 13) (v := (6 : Int32)) dL_removes_13 rfl ?_
  refine v_iload_n (pc := 15) (i := 2) dL_removes_15 rfl rfl ?_
  refine v_imul (pc := 16) dL_removes_16 ?_
  refine v_iconst (pc := 17) (v := (2 : Int32)) dL_removes_17 rfl ?_
  refine v_iadd (pc := 18) dL_removes_18 ?_
  refine s_iald (pc := 19) dL_removes_19 hF (fun x2 hF => ?_)
  refine v_istore (pc := 20) (i := 5) [some (sr a0), some (sr a1), some (si a2), some (si (0 : Int32)), some (si x1), some (si x2), none, none] dL_removes_20 (by decide) rfl rfl ?_
  refine v_aload_n (pc := 22) (i := 0) dL_removes_22 rfl rfl ?_
  refine v_iconst (pc := 23) (v := (0 : Int32)) dL_removes_23 rfl ?_
  refine s_iald (pc := 24) dL_removes_24 hF (fun x3 hF => ?_)
  refine v_iconst (pc := 25) (v := (1 : Int32)) dL_removes_25 rfl ?_
  refine v_isub (pc := 26) dL_removes_26 ?_
  refine v_istore (pc := 27) (i := 6) [some (sr a0), some (sr a1), some (si a2), some (si (0 : Int32)), some (si x1), some (si x2), some (si (x3 - (1 : Int32))), none] dL_removes_27 (by decide) rfl rfl ?_
  refine mg (X := fun q4 => gV G mL_removes 3 Q 120 [some (sr a0), some (sr a1), none, some (si q4.1), some (si x1), some (si x2), none, none] [] (0) (0) q4.2) hF (fun _ hj9 hF => v_lle [some (sr a0), some (sr a1), some (si a2), some (si (0 : Int32)), some (si x1), some (si x2), some (si (x3 - (1 : Int32))), none] ⟨rfl, rfl, rfl, rfl, rfl, rfl, rfl, trivial⟩ (lL_removes_29 a0 a1 a2 x1 x2 hj9 FU ((0 : Int32), x3 - (1 : Int32), h) hF)) (fun q4 hF => ?_)
  refine v_iconst (pc := 120) (v := (1 : Int32)) dL_removes_120 rfl ?_
  refine v_istore (pc := 121) (i := 6) [some (sr a0), some (sr a1), none, some (si q4.1), some (si x1), some (si x2), some (si (1 : Int32)), none] dL_removes_121 (by decide) rfl rfl ?_
  refine mg (X := fun q5 => gV G mL_removes 3 Q 182 [some (sr a0), some (sr a1), none, some (si q4.1), some (si x1), some (si x2), none, none] [] (0) (0) q5) hF (fun _ hj8 hF => v_lle [some (sr a0), some (sr a1), none, some (si q4.1), some (si x1), some (si x2), some (si (1 : Int32)), none] ⟨rfl, rfl, rfl, rfl, rfl, rfl, trivial⟩ (lL_removes_123 a0 a1 q4.1 x1 x2 hj8 FU ((1 : Int32), q4.2) hF)) (fun q5 hF => ?_)
  refine v_aload_n (pc := 182) (i := 0) dL_removes_182 rfl rfl ?_
  refine v_aload_n (pc := 183) (i := 1) dL_removes_183 rfl rfl ?_
  refine v_iload (pc := 184) (i := 4) dL_removes_184 rfl ?_
  refine v_iload (pc := 186) (i := 5) dL_removes_186 rfl ?_
  refine ch_S (pc := 188) gU (as := [sr a0, sr a1, si x1, si x2]) (st := []) (N := mL_loses) (k := 0) (n := 0) (k1 := 0) (n1 := 0) dL_removes_188 lkL_219 caL_loses csL_loses rfl (fun Q1 hq => tL_loses a0 a1 x1 x2 q5 Q1 hq) ⟨by decide, by decide⟩ (Nat.le_of_ble_eq_true rfl) rfl hF (fun x6 h7 hF => ?_)
  show gV G mL_removes 3 Q 191 [some (sr a0), some (sr a1), none, some (si q4.1), some (si x1), some (si x2), none, none] [] (0) (0) h7
  refine v_iload_n (pc := 191) (i := 3) dL_removes_191 rfl rfl ?_
  exact v_iret (pc := 192) dL_removes_192 rfl rfl (okr hF fun q => q)
