/-! ===== methods: their functions and rows ===== -/
theorem dX11_writeGreat_0 : decode cX11_writeGreat 0 = .ok (.iload 4, 2) := by decide +kernel
theorem dX11_writeGreat_2 : decode cX11_writeGreat 2 = .ok (.istore 5, 2) := by decide +kernel
theorem dX11_writeGreat_4 : decode cX11_writeGreat 4 = .ok (.iload 4, 2) := by decide +kernel
theorem dX11_writeGreat_6 : decode cX11_writeGreat 6 = .ok (.istore 6, 2) := by decide +kernel
theorem dX11_writeGreat_8 : decode cX11_writeGreat 8 = .ok (.iload 5, 2) := by decide +kernel
theorem dX11_writeGreat_10 : decode cX11_writeGreat 10 = .ok (.ifCond .le 37, 3) := by decide +kernel
theorem dX11_writeGreat_13 : decode cX11_writeGreat 13 = .ok (.aload_n 1, 1) := by decide +kernel
theorem dX11_writeGreat_14 : decode cX11_writeGreat 14 = .ok (.iload_n 2, 1) := by decide +kernel
theorem dX11_writeGreat_15 : decode cX11_writeGreat 15 = .ok (.iload 5, 2) := by decide +kernel
theorem dX11_writeGreat_17 : decode cX11_writeGreat 17 = .ok (.iadd, 1) := by decide +kernel
theorem dX11_writeGreat_18 : decode cX11_writeGreat 18 = .ok (.iconst 1, 1) := by decide +kernel
theorem dX11_writeGreat_19 : decode cX11_writeGreat 19 = .ok (.isub, 1) := by decide +kernel
theorem dX11_writeGreat_20 : decode cX11_writeGreat 20 = .ok (.iaload, 1) := by decide +kernel
theorem dX11_writeGreat_21 : decode cX11_writeGreat 21 = .ok (.invokestatic 239, 3) := by decide +kernel
theorem dX11_writeGreat_24 : decode cX11_writeGreat 24 = .ok (.ifCond .ne 17, 3) := by decide +kernel
theorem dX11_writeGreat_27 : decode cX11_writeGreat 27 = .ok (.aload_n 1, 1) := by decide +kernel
theorem dX11_writeGreat_28 : decode cX11_writeGreat 28 = .ok (.iload_n 2, 1) := by decide +kernel
theorem dX11_writeGreat_29 : decode cX11_writeGreat 29 = .ok (.iload 5, 2) := by decide +kernel
theorem dX11_writeGreat_31 : decode cX11_writeGreat 31 = .ok (.iadd, 1) := by decide +kernel
theorem dX11_writeGreat_32 : decode cX11_writeGreat 32 = .ok (.iconst 1, 1) := by decide +kernel
theorem dX11_writeGreat_33 : decode cX11_writeGreat 33 = .ok (.isub, 1) := by decide +kernel
theorem dX11_writeGreat_34 : decode cX11_writeGreat 34 = .ok (.iaload, 1) := by decide +kernel
theorem dX11_writeGreat_35 : decode cX11_writeGreat 35 = .ok (.invokestatic 242, 3) := by decide +kernel
theorem dX11_writeGreat_38 : decode cX11_writeGreat 38 = .ok (.ifCond .eq 9, 3) := by decide +kernel
theorem dX11_writeGreat_41 : decode cX11_writeGreat 41 = .ok (.iinc 5 (-1), 3) := by decide +kernel
theorem dX11_writeGreat_44 : decode cX11_writeGreat 44 = .ok (.goto (-36), 3) := by decide +kernel
theorem dX11_writeGreat_47 : decode cX11_writeGreat 47 = .ok (.iconst 1, 1) := by decide +kernel
theorem dX11_writeGreat_48 : decode cX11_writeGreat 48 = .ok (.istore 7, 2) := by decide +kernel
theorem dX11_writeGreat_50 : decode cX11_writeGreat 50 = .ok (.iload 5, 2) := by decide +kernel
theorem dX11_writeGreat_52 : decode cX11_writeGreat 52 = .ok (.istore 6, 2) := by decide +kernel
theorem dX11_writeGreat_54 : decode cX11_writeGreat 54 = .ok (.iload 6, 2) := by decide +kernel
theorem dX11_writeGreat_56 : decode cX11_writeGreat 56 = .ok (.iload_n 3, 1) := by decide +kernel
theorem dX11_writeGreat_57 : decode cX11_writeGreat 57 = .ok (.if_icmp .ge 57, 3) := by decide +kernel
theorem dX11_writeGreat_60 : decode cX11_writeGreat 60 = .ok (.aload_n 1, 1) := by decide +kernel
theorem dX11_writeGreat_61 : decode cX11_writeGreat 61 = .ok (.iload_n 2, 1) := by decide +kernel
theorem dX11_writeGreat_62 : decode cX11_writeGreat 62 = .ok (.iload 6, 2) := by decide +kernel
theorem dX11_writeGreat_64 : decode cX11_writeGreat 64 = .ok (.iadd, 1) := by decide +kernel
theorem dX11_writeGreat_65 : decode cX11_writeGreat 65 = .ok (.iaload, 1) := by decide +kernel
theorem dX11_writeGreat_66 : decode cX11_writeGreat 66 = .ok (.invokestatic 239, 3) := by decide +kernel
theorem dX11_writeGreat_69 : decode cX11_writeGreat 69 = .ok (.ifCond .ne 15, 3) := by decide +kernel
theorem dX11_writeGreat_72 : decode cX11_writeGreat 72 = .ok (.aload_n 1, 1) := by decide +kernel
theorem dX11_writeGreat_73 : decode cX11_writeGreat 73 = .ok (.iload_n 2, 1) := by decide +kernel
theorem dX11_writeGreat_74 : decode cX11_writeGreat 74 = .ok (.iload 6, 2) := by decide +kernel
theorem dX11_writeGreat_76 : decode cX11_writeGreat 76 = .ok (.iadd, 1) := by decide +kernel
theorem dX11_writeGreat_77 : decode cX11_writeGreat 77 = .ok (.iaload, 1) := by decide +kernel
theorem dX11_writeGreat_78 : decode cX11_writeGreat 78 = .ok (.invokestatic 242, 3) := by decide +kernel
theorem dX11_writeGreat_81 : decode cX11_writeGreat 81 = .ok (.ifCond .eq 33, 3) := by decide +kernel
theorem dX11_writeGreat_84 : decode cX11_writeGreat 84 = .ok (.iload 7, 2) := by decide +kernel
theorem dX11_writeGreat_86 : decode cX11_writeGreat 86 = .ok (.ifCond .eq 19, 3) := by decide +kernel
theorem dX11_writeGreat_89 : decode cX11_writeGreat 89 = .ok (.aload_n 1, 1) := by decide +kernel
theorem dX11_writeGreat_90 : decode cX11_writeGreat 90 = .ok (.iload_n 2, 1) := by decide +kernel
theorem dX11_writeGreat_91 : decode cX11_writeGreat 91 = .ok (.iload 6, 2) := by decide +kernel
theorem dX11_writeGreat_93 : decode cX11_writeGreat 93 = .ok (.iadd, 1) := by decide +kernel
theorem dX11_writeGreat_94 : decode cX11_writeGreat 94 = .ok (.iaload, 1) := by decide +kernel
theorem dX11_writeGreat_95 : decode cX11_writeGreat 95 = .ok (.invokestatic 242, 3) := by decide +kernel
theorem dX11_writeGreat_98 : decode cX11_writeGreat 98 = .ok (.ifCond .eq 7, 3) := by decide +kernel
theorem dX11_writeGreat_101 : decode cX11_writeGreat 101 = .ok (.iconst 1, 1) := by decide +kernel
theorem dX11_writeGreat_102 : decode cX11_writeGreat 102 = .ok (.goto 4, 3) := by decide +kernel
theorem dX11_writeGreat_105 : decode cX11_writeGreat 105 = .ok (.iconst 0, 1) := by decide +kernel
theorem dX11_writeGreat_106 : decode cX11_writeGreat 106 = .ok (.istore 7, 2) := by decide +kernel
theorem dX11_writeGreat_108 : decode cX11_writeGreat 108 = .ok (.iinc 6 1, 3) := by decide +kernel
theorem dX11_writeGreat_111 : decode cX11_writeGreat 111 = .ok (.goto (-57), 3) := by decide +kernel
theorem dX11_writeGreat_114 : decode cX11_writeGreat 114 = .ok (.iload 7, 2) := by decide +kernel
theorem dX11_writeGreat_116 : decode cX11_writeGreat 116 = .ok (.ifCond .eq 16, 3) := by decide +kernel
theorem dX11_writeGreat_119 : decode cX11_writeGreat 119 = .ok (.iload 6, 2) := by decide +kernel
theorem dX11_writeGreat_121 : decode cX11_writeGreat 121 = .ok (.iload 5, 2) := by decide +kernel
theorem dX11_writeGreat_123 : decode cX11_writeGreat 123 = .ok (.isub, 1) := by decide +kernel
theorem dX11_writeGreat_124 : decode cX11_writeGreat 124 = .ok (.iconst 1, 1) := by decide +kernel
theorem dX11_writeGreat_125 : decode cX11_writeGreat 125 = .ok (.if_icmp .le 7, 3) := by decide +kernel
theorem dX11_writeGreat_128 : decode cX11_writeGreat 128 = .ok (.iconst 1, 1) := by decide +kernel
theorem dX11_writeGreat_129 : decode cX11_writeGreat 129 = .ok (.goto 4, 3) := by decide +kernel
theorem dX11_writeGreat_132 : decode cX11_writeGreat 132 = .ok (.iconst 0, 1) := by decide +kernel
theorem dX11_writeGreat_133 : decode cX11_writeGreat 133 = .ok (.istore 8, 2) := by decide +kernel
theorem dX11_writeGreat_135 : decode cX11_writeGreat 135 = .ok (.iload 8, 2) := by decide +kernel
theorem dX11_writeGreat_137 : decode cX11_writeGreat 137 = .ok (.ifCond .eq 10, 3) := by decide +kernel
theorem dX11_writeGreat_140 : decode cX11_writeGreat 140 = .ok (.iload 4, 2) := by decide +kernel
theorem dX11_writeGreat_142 : decode cX11_writeGreat 142 = .ok (.iload 5, 2) := by decide +kernel
theorem dX11_writeGreat_144 : decode cX11_writeGreat 144 = .ok (.if_icmp .ne 9, 3) := by decide +kernel
theorem dX11_writeGreat_147 : decode cX11_writeGreat 147 = .ok (.aload_n 0, 1) := by decide +kernel
theorem dX11_writeGreat_148 : decode cX11_writeGreat 148 = .ok (.bipush 32, 2) := by decide +kernel
theorem dX11_writeGreat_150 : decode cX11_writeGreat 150 = .ok (.invokevirtual 245, 3) := by decide +kernel
theorem dX11_writeGreat_153 : decode cX11_writeGreat 153 = .ok (.iload 8, 2) := by decide +kernel
theorem dX11_writeGreat_155 : decode cX11_writeGreat 155 = .ok (.ifCond .eq 16, 3) := by decide +kernel
theorem dX11_writeGreat_158 : decode cX11_writeGreat 158 = .ok (.iload 4, 2) := by decide +kernel
theorem dX11_writeGreat_160 : decode cX11_writeGreat 160 = .ok (.iload 5, 2) := by decide +kernel
theorem dX11_writeGreat_162 : decode cX11_writeGreat 162 = .ok (.if_icmp .ne 9, 3) := by decide +kernel
theorem dX11_writeGreat_165 : decode cX11_writeGreat 165 = .ok (.aload_n 0, 1) := by decide +kernel
theorem dX11_writeGreat_166 : decode cX11_writeGreat 166 = .ok (.bipush 32, 2) := by decide +kernel
theorem dX11_writeGreat_168 : decode cX11_writeGreat 168 = .ok (.invokevirtual 245, 3) := by decide +kernel
theorem dX11_writeGreat_171 : decode cX11_writeGreat 171 = .ok (.aload_n 0, 1) := by decide +kernel
theorem dX11_writeGreat_172 : decode cX11_writeGreat 172 = .ok (.aload_n 0, 1) := by decide +kernel
theorem dX11_writeGreat_173 : decode cX11_writeGreat 173 = .ok (.aload_n 1, 1) := by decide +kernel
theorem dX11_writeGreat_174 : decode cX11_writeGreat 174 = .ok (.iload_n 2, 1) := by decide +kernel
theorem dX11_writeGreat_175 : decode cX11_writeGreat 175 = .ok (.iload 4, 2) := by decide +kernel
theorem dX11_writeGreat_177 : decode cX11_writeGreat 177 = .ok (.iadd, 1) := by decide +kernel
theorem dX11_writeGreat_178 : decode cX11_writeGreat 178 = .ok (.iaload, 1) := by decide +kernel
theorem dX11_writeGreat_179 : decode cX11_writeGreat 179 = .ok (.bipush 65, 2) := by decide +kernel
theorem dX11_writeGreat_181 : decode cX11_writeGreat 181 = .ok (.isub, 1) := by decide +kernel
theorem dX11_writeGreat_182 : decode cX11_writeGreat 182 = .ok (.invokevirtual 248, 3) := by decide +kernel
theorem dX11_writeGreat_185 : decode cX11_writeGreat 185 = .ok (.invokevirtual 245, 3) := by decide +kernel
theorem dX11_writeGreat_188 : decode cX11_writeGreat 188 = .ok (.return_, 1) := by decide +kernel
abbrev mX11_writeGreat : gM := (yX11_writeGreat, cX11_writeGreat, 9, (Option.none : Option FieldType), [])
theorem caX11_writeGreat : cal mX11_writeGreat 4 := ⟨xw 1711 (by decide +kernel) rfl, xw 102 (by decide +kernel) rfl, by decide, by decide +kernel⟩
theorem cvX11_writeGreat : calV mX11_writeGreat := ⟨xw 1710 (by decide +kernel) rfl, xw 54 (by decide +kernel) rfl⟩
theorem lkX11_239 : Cond.methodLink RX11 239 yX11_isSmall ∈ XW := xw 1712 (by decide +kernel) rfl
theorem lkX11_242 : Cond.methodLink RX11 242 yX11_isGreat ∈ XW := xw 1705 (by decide +kernel) rfl
theorem lkX11_245 : Cond.methodLink RX11 245 yX11_cell ∈ XW := xw 1694 (by decide +kernel) rfl
theorem lkX11_248 : Cond.methodLink RX11 248 yX11_points ∈ XW := xw 1690 (by decide +kernel) rfl
/-! BrailleDeskModel.writeGreat -/
theorem lX11_writeGreat_8 {G : gG} {Q : hQ} {P : Int32 → Prop} {k n : Nat} (a0 : Nat) (h : hp) (c1 : Nat) (c2 : Int32) (c3 : Int32) (c4 : Int32) (m : mm) (hJ : ∀ q : Int32, P q → gV G mX11_writeGreat 2 Q 47 [some (sr (some a0)), some (sr (some (a0 + mo c1))), some (si c2), some (si c3), some (si c4), some (si q), none, none, none] [] (k) (n) (jn a0 h m)) : ∀ (fu : Nat) (a : Int32), okB (itr (fX11_writeGreat_B8 c1 c2 c3 c4 m) fu a) P → gV G mX11_writeGreat 2 Q 8 [some (sr (some a0)), some (sr (some (a0 + mo c1))), some (si c2), some (si c3), some (si c4), some (si a), none, none, none] [] (k) (n) (jn a0 h m) :=
  lpg (X := fun (a : Int32) => gV G mX11_writeGreat 2 Q 8 [some (sr (some a0)), some (sr (some (a0 + mo c1))), some (si c2), some (si c3), some (si c4), some (si a), none, none, none] [] (k) (n) (jn a0 h m)) (fun a P2 hL hE hF => by
    delta fX11_writeGreat_B8 at hF
    refine v_iload (pc := 8) (i := 5) dX11_writeGreat_8 rfl ?_
    refine v_if_le (pc := 10) 47 dX11_writeGreat_10 rfl (fun hc => ?_) (fun hc => ?_)
    · replace hF := (okB_if hF).1 hc
      exact v_lle [some (sr (some a0)), some (sr (some (a0 + mo c1))), some (si c2), some (si c3), some (si c4), some (si a), none, none, none] ⟨rfl, rfl, rfl, rfl, rfl, rfl, trivial⟩ (hJ a (hE _ (okB_some hF)))
    replace hF := (okB_if hF).2 hc
    refine v_aload_n (pc := 13) (i := 1) dX11_writeGreat_13 rfl rfl ?_
    refine v_iload_n (pc := 14) (i := 2) dX11_writeGreat_14 rfl rfl ?_
    refine v_iload (pc := 15) (i := 5) dX11_writeGreat_15 rfl ?_
    refine v_iadd (pc := 17) dX11_writeGreat_17 ?_
    refine v_iconst (pc := 18) (v := (1 : Int32)) dX11_writeGreat_18 rfl ?_
    refine v_isub (pc := 19) dX11_writeGreat_19 ?_
    refine m_iald (pc := 20) (j := c1) dX11_writeGreat_20 hF (fun x1 hF => ?_)
    refine cp_S (pc := 21) gI (as := [si x1]) (st := []) (N := mX11_isSmall) (k := k) (n := n) (k1 := 0) (n1 := 0) dX11_writeGreat_21 lkX11_239 caX11_isSmall csX11_isSmall rfl (fun Q1 hq => tX11_isSmall x1 (jn a0 h m) Q1 hq) ⟨by decide, by decide⟩ (Nat.le_of_ble_eq_true rfl) rfl hF (fun x2 hF => ?_)
    show gV G mX11_writeGreat 2 Q 24 [some (sr (some a0)), some (sr (some (a0 + mo c1))), some (si c2), some (si c3), some (si c4), some (si a), none, none, none] [si x2] (k) (n) (jn a0 h m)
    refine v_if_ne (pc := 24) 41 dX11_writeGreat_24 rfl (fun hc => ?_) (fun hc => ?_)
    · replace hF := (okB_if hF).2 hc
      refine v_iinc (pc := 41) (i := 5) (a + (-1 : Int32)) [some (sr (some a0)), some (sr (some (a0 + mo c1))), some (si c2), some (si c3), some (si c4), some (si (a + (-1 : Int32))), none, none, none] dX11_writeGreat_41 rfl rfl rfl rfl ?_
      refine v_goto (pc := 44) 8 dX11_writeGreat_44 rfl ?_
      exact v_lle [some (sr (some a0)), some (sr (some (a0 + mo c1))), some (si c2), some (si c3), some (si c4), some (si (a + (-1 : Int32))), none, none, none] ⟨rfl, rfl, rfl, rfl, rfl, rfl, trivial⟩ (hL (a + (-1 : Int32)) (okB_some hF))
    replace hF := (okB_if hF).1 hc
    refine v_aload_n (pc := 27) (i := 1) dX11_writeGreat_27 rfl rfl ?_
    refine v_iload_n (pc := 28) (i := 2) dX11_writeGreat_28 rfl rfl ?_
    refine v_iload (pc := 29) (i := 5) dX11_writeGreat_29 rfl ?_
    refine v_iadd (pc := 31) dX11_writeGreat_31 ?_
    refine v_iconst (pc := 32) (v := (1 : Int32)) dX11_writeGreat_32 rfl ?_
    refine v_isub (pc := 33) dX11_writeGreat_33 ?_
    refine m_iald (pc := 34) (j := c1) dX11_writeGreat_34 hF (fun x3 hF => ?_)
    refine cp_S (pc := 35) gI (as := [si x3]) (st := []) (N := mX11_isGreat) (k := k) (n := n) (k1 := 0) (n1 := 0) dX11_writeGreat_35 lkX11_242 caX11_isGreat csX11_isGreat rfl (fun Q1 hq => tX11_isGreat x3 (jn a0 h m) Q1 hq) ⟨by decide, by decide⟩ (Nat.le_of_ble_eq_true rfl) rfl hF (fun x4 hF => ?_)
    show gV G mX11_writeGreat 2 Q 38 [some (sr (some a0)), some (sr (some (a0 + mo c1))), some (si c2), some (si c3), some (si c4), some (si a), none, none, none] [si x4] (k) (n) (jn a0 h m)
    refine v_if_eq (pc := 38) 47 dX11_writeGreat_38 rfl (fun hc => ?_) (fun hc => ?_)
    · replace hF := (okB_if hF).1 hc
      exact v_lle [some (sr (some a0)), some (sr (some (a0 + mo c1))), some (si c2), some (si c3), some (si c4), some (si a), none, none, none] ⟨rfl, rfl, rfl, rfl, rfl, rfl, trivial⟩ (hJ a (hE _ (okB_some hF)))
    replace hF := (okB_if hF).2 hc
    refine v_iinc (pc := 41) (i := 5) (a + (-1 : Int32)) [some (sr (some a0)), some (sr (some (a0 + mo c1))), some (si c2), some (si c3), some (si c4), some (si (a + (-1 : Int32))), none, none, none] dX11_writeGreat_41 rfl rfl rfl rfl ?_
    refine v_goto (pc := 44) 8 dX11_writeGreat_44 rfl ?_
    exact v_lle [some (sr (some a0)), some (sr (some (a0 + mo c1))), some (si c2), some (si c3), some (si c4), some (si (a + (-1 : Int32))), none, none, none] ⟨rfl, rfl, rfl, rfl, rfl, rfl, trivial⟩ (hL (a + (-1 : Int32)) (okB_some hF)))
theorem lX11_writeGreat_54 {G : gG} {Q : hQ} {P : (Int32 × Int32) → Prop} {k n : Nat} (a0 : Nat) (h : hp) (c1 : Nat) (c2 : Int32) (c3 : Int32) (c4 : Int32) (c5 : Int32) (m : mm) (hJ : ∀ q : (Int32 × Int32), P q → gV G mX11_writeGreat 2 Q 114 [some (sr (some a0)), some (sr (some (a0 + mo c1))), some (si c2), none, some (si c4), some (si c5), some (si q.1), some (si q.2), none] [] (k) (n) (jn a0 h m)) : ∀ (fu : Nat) (a : (Int32 × Int32)), okB (itr (fX11_writeGreat_B54 c1 c2 c3 c4 c5 m) fu a) P → gV G mX11_writeGreat 2 Q 54 [some (sr (some a0)), some (sr (some (a0 + mo c1))), some (si c2), some (si c3), some (si c4), some (si c5), some (si a.1), some (si a.2), none] [] (k) (n) (jn a0 h m) :=
  lpg (X := fun (a : (Int32 × Int32)) => gV G mX11_writeGreat 2 Q 54 [some (sr (some a0)), some (sr (some (a0 + mo c1))), some (si c2), some (si c3), some (si c4), some (si c5), some (si a.1), some (si a.2), none] [] (k) (n) (jn a0 h m)) (fun a P2 hL hE hF => by
    delta fX11_writeGreat_B54 at hF
    refine v_iload (pc := 54) (i := 6) dX11_writeGreat_54 rfl ?_
    refine v_iload_n (pc := 56) (i := 3) dX11_writeGreat_56 rfl rfl ?_
    refine v_icmp_ge (pc := 57) 114 dX11_writeGreat_57 rfl (fun hc => ?_) (fun hc => ?_)
    · replace hF := (okB_if hF).1 hc
      exact v_lle [some (sr (some a0)), some (sr (some (a0 + mo c1))), some (si c2), none, some (si c4), some (si c5), some (si a.1), some (si a.2), none] ⟨rfl, rfl, rfl, rfl, rfl, rfl, rfl, trivial⟩ (hJ (a.1, a.2) (hE _ (okB_some hF)))
    replace hF := (okB_if hF).2 hc
    refine v_aload_n (pc := 60) (i := 1) dX11_writeGreat_60 rfl rfl ?_
    refine v_iload_n (pc := 61) (i := 2) dX11_writeGreat_61 rfl rfl ?_
    refine v_iload (pc := 62) (i := 6) dX11_writeGreat_62 rfl ?_
    refine v_iadd (pc := 64) dX11_writeGreat_64 ?_
    refine m_iald (pc := 65) (j := c1) dX11_writeGreat_65 hF (fun x1 hF => ?_)
    refine cp_S (pc := 66) gI (as := [si x1]) (st := []) (N := mX11_isSmall) (k := k) (n := n) (k1 := 0) (n1 := 0) dX11_writeGreat_66 lkX11_239 caX11_isSmall csX11_isSmall rfl (fun Q1 hq => tX11_isSmall x1 (jn a0 h m) Q1 hq) ⟨by decide, by decide⟩ (Nat.le_of_ble_eq_true rfl) rfl hF (fun x2 hF => ?_)
    show gV G mX11_writeGreat 2 Q 69 [some (sr (some a0)), some (sr (some (a0 + mo c1))), some (si c2), some (si c3), some (si c4), some (si c5), some (si a.1), some (si a.2), none] [si x2] (k) (n) (jn a0 h m)
    refine mgR (X := fun q3 => gV G mX11_writeGreat 2 Q 84 [some (sr (some a0)), some (sr (some (a0 + mo c1))), some (si c2), some (si c3), some (si c4), some (si c5), some (si a.1), some (si a.2), none] [] (k) (n) (jn a0 h m)) hF (fun _ hj4 hr4 hF => ?_) (fun q3 hF => ?_)
    · refine v_if_ne (pc := 69) 84 dX11_writeGreat_69 rfl (fun hc => ?_) (fun hc => ?_)
      · replace hF := (okB_if hF).2 hc
        exact v_lle [some (sr (some a0)), some (sr (some (a0 + mo c1))), some (si c2), some (si c3), some (si c4), some (si c5), some (si a.1), some (si a.2), none] ⟨rfl, rfl, rfl, rfl, rfl, rfl, rfl, rfl, trivial⟩ (hj4 () (okB_some hF))
      replace hF := (okB_if hF).1 hc
      refine v_aload_n (pc := 72) (i := 1) dX11_writeGreat_72 rfl rfl ?_
      refine v_iload_n (pc := 73) (i := 2) dX11_writeGreat_73 rfl rfl ?_
      refine v_iload (pc := 74) (i := 6) dX11_writeGreat_74 rfl ?_
      refine v_iadd (pc := 76) dX11_writeGreat_76 ?_
      refine m_iald (pc := 77) (j := c1) dX11_writeGreat_77 hF (fun x5 hF => ?_)
      refine cp_S (pc := 78) gI (as := [si x5]) (st := []) (N := mX11_isGreat) (k := k) (n := n) (k1 := 0) (n1 := 0) dX11_writeGreat_78 lkX11_242 caX11_isGreat csX11_isGreat rfl (fun Q1 hq => tX11_isGreat x5 (jn a0 h m) Q1 hq) ⟨by decide, by decide⟩ (Nat.le_of_ble_eq_true rfl) rfl hF (fun x6 hF => ?_)
      show gV G mX11_writeGreat 2 Q 81 [some (sr (some a0)), some (sr (some (a0 + mo c1))), some (si c2), some (si c3), some (si c4), some (si c5), some (si a.1), some (si a.2), none] [si x6] (k) (n) (jn a0 h m)
      refine v_if_eq (pc := 81) 114 dX11_writeGreat_81 rfl (fun hc => ?_) (fun hc => ?_)
      · replace hF := (okB_if hF).1 hc
        exact v_lle [some (sr (some a0)), some (sr (some (a0 + mo c1))), some (si c2), none, some (si c4), some (si c5), some (si a.1), some (si a.2), none] ⟨rfl, rfl, rfl, rfl, rfl, rfl, rfl, trivial⟩ (hJ (a.1, a.2) (hE _ (hr4 _ (okB_some hF))))
      replace hF := (okB_if hF).2 hc
      exact v_lle [some (sr (some a0)), some (sr (some (a0 + mo c1))), some (si c2), some (si c3), some (si c4), some (si c5), some (si a.1), some (si a.2), none] ⟨rfl, rfl, rfl, rfl, rfl, rfl, rfl, rfl, trivial⟩ (hj4 () (okB_some hF))
    refine v_iload (pc := 84) (i := 7) dX11_writeGreat_84 rfl ?_
    refine v_if_eq (pc := 86) 105 dX11_writeGreat_86 rfl (fun hc => ?_) (fun hc => ?_)
    · replace hF := (okB_if hF).1 hc
      refine v_iconst (pc := 105) (v := (0 : Int32)) dX11_writeGreat_105 rfl ?_
      refine v_istore (pc := 106) (i := 7) [some (sr (some a0)), some (sr (some (a0 + mo c1))), some (si c2), some (si c3), some (si c4), some (si c5), some (si a.1), some (si (0 : Int32)), none] dX11_writeGreat_106 (by decide) rfl rfl ?_
      refine v_iinc (pc := 108) (i := 6) (a.1 + (1 : Int32)) [some (sr (some a0)), some (sr (some (a0 + mo c1))), some (si c2), some (si c3), some (si c4), some (si c5), some (si (a.1 + (1 : Int32))), some (si (0 : Int32)), none] dX11_writeGreat_108 rfl rfl rfl rfl ?_
      refine v_goto (pc := 111) 54 dX11_writeGreat_111 rfl ?_
      exact v_lle [some (sr (some a0)), some (sr (some (a0 + mo c1))), some (si c2), some (si c3), some (si c4), some (si c5), some (si (a.1 + (1 : Int32))), some (si (0 : Int32)), none] ⟨rfl, rfl, rfl, rfl, rfl, rfl, rfl, rfl, trivial⟩ (hL (a.1 + (1 : Int32), (0 : Int32)) (okB_some hF))
    replace hF := (okB_if hF).2 hc
    refine v_aload_n (pc := 89) (i := 1) dX11_writeGreat_89 rfl rfl ?_
    refine v_iload_n (pc := 90) (i := 2) dX11_writeGreat_90 rfl rfl ?_
    refine v_iload (pc := 91) (i := 6) dX11_writeGreat_91 rfl ?_
    refine v_iadd (pc := 93) dX11_writeGreat_93 ?_
    refine m_iald (pc := 94) (j := c1) dX11_writeGreat_94 hF (fun x7 hF => ?_)
    refine cp_S (pc := 95) gI (as := [si x7]) (st := []) (N := mX11_isGreat) (k := k) (n := n) (k1 := 0) (n1 := 0) dX11_writeGreat_95 lkX11_242 caX11_isGreat csX11_isGreat rfl (fun Q1 hq => tX11_isGreat x7 (jn a0 h m) Q1 hq) ⟨by decide, by decide⟩ (Nat.le_of_ble_eq_true rfl) rfl hF (fun x8 hF => ?_)
    show gV G mX11_writeGreat 2 Q 98 [some (sr (some a0)), some (sr (some (a0 + mo c1))), some (si c2), some (si c3), some (si c4), some (si c5), some (si a.1), some (si a.2), none] [si x8] (k) (n) (jn a0 h m)
    refine v_if_eq (pc := 98) 105 dX11_writeGreat_98 rfl (fun hc => ?_) (fun hc => ?_)
    · replace hF := (okB_if hF).1 hc
      refine v_iconst (pc := 105) (v := (0 : Int32)) dX11_writeGreat_105 rfl ?_
      refine v_istore (pc := 106) (i := 7) [some (sr (some a0)), some (sr (some (a0 + mo c1))), some (si c2), some (si c3), some (si c4), some (si c5), some (si a.1), some (si (0 : Int32)), none] dX11_writeGreat_106 (by decide) rfl rfl ?_
      refine v_iinc (pc := 108) (i := 6) (a.1 + (1 : Int32)) [some (sr (some a0)), some (sr (some (a0 + mo c1))), some (si c2), some (si c3), some (si c4), some (si c5), some (si (a.1 + (1 : Int32))), some (si (0 : Int32)), none] dX11_writeGreat_108 rfl rfl rfl rfl ?_
      refine v_goto (pc := 111) 54 dX11_writeGreat_111 rfl ?_
      exact v_lle [some (sr (some a0)), some (sr (some (a0 + mo c1))), some (si c2), some (si c3), some (si c4), some (si c5), some (si (a.1 + (1 : Int32))), some (si (0 : Int32)), none] ⟨rfl, rfl, rfl, rfl, rfl, rfl, rfl, rfl, trivial⟩ (hL (a.1 + (1 : Int32), (0 : Int32)) (okB_some hF))
    replace hF := (okB_if hF).2 hc
    refine v_iconst (pc := 101) (v := (1 : Int32)) dX11_writeGreat_101 rfl ?_
    refine v_goto (pc := 102) 106 dX11_writeGreat_102 rfl ?_
    refine v_istore (pc := 106) (i := 7) [some (sr (some a0)), some (sr (some (a0 + mo c1))), some (si c2), some (si c3), some (si c4), some (si c5), some (si a.1), some (si (1 : Int32)), none] dX11_writeGreat_106 (by decide) rfl rfl ?_
    refine v_iinc (pc := 108) (i := 6) (a.1 + (1 : Int32)) [some (sr (some a0)), some (sr (some (a0 + mo c1))), some (si c2), some (si c3), some (si c4), some (si c5), some (si (a.1 + (1 : Int32))), some (si (1 : Int32)), none] dX11_writeGreat_108 rfl rfl rfl rfl ?_
    refine v_goto (pc := 111) 54 dX11_writeGreat_111 rfl ?_
    exact v_lle [some (sr (some a0)), some (sr (some (a0 + mo c1))), some (si c2), some (si c3), some (si c4), some (si c5), some (si (a.1 + (1 : Int32))), some (si (1 : Int32)), none] ⟨rfl, rfl, rfl, rfl, rfl, rfl, rfl, rfl, trivial⟩ (hL (a.1 + (1 : Int32), (1 : Int32)) (okB_some hF)))
theorem tX11_writeGreat {G : gG} (a0 : Nat) (h : hp) (a1 : Nat) (a2 : Int32) (a3 : Int32) (a4 : Int32) (m : mm) (Q : hQ) (hF : okB (fX11_writeGreat a1 a2 a3 a4 m) (pM gU Q a0 h)) : gS G mX11_writeGreat 2 0 0 [sr (some a0), sr (some (a0 + mo a1)), si a2, si a3, si a4] (jn a0 h m) Q := by
  delta fX11_writeGreat at hF
  refine gS_at [some (sr (some a0)), some (sr (some (a0 + mo a1))), some (si a2), some (si a3), some (si a4), none, none, none, none] pl_X11 rfl (Nat.le_of_ble_eq_true rfl) rfl ?_
  refine v_iload (pc := 0) (i := 4) dX11_writeGreat_0 rfl ?_
  refine v_istore (pc := 2) (i := 5) [some (sr (some a0)), some (sr (some (a0 + mo a1))), some (si a2), some (si a3), some (si a4), some (si a4), none, none, none] dX11_writeGreat_2 (by decide) rfl rfl ?_
  refine v_iload (pc := 4) (i := 4) dX11_writeGreat_4 rfl ?_
  refine v_istore (pc := 6) (i := 6) [some (sr (some a0)), some (sr (some (a0 + mo a1))), some (si a2), some (si a3), some (si a4), some (si a4), some (si a4), none, none] dX11_writeGreat_6 (by decide) rfl rfl ?_
  refine mg (X := fun q1 => gV G mX11_writeGreat 2 Q 47 [some (sr (some a0)), some (sr (some (a0 + mo a1))), some (si a2), some (si a3), some (si a4), some (si q1), none, none, none] [] (0) (0) (jn a0 h m)) hF (fun _ hj20 hF => v_lle [some (sr (some a0)), some (sr (some (a0 + mo a1))), some (si a2), some (si a3), some (si a4), some (si a4), none, none, none] ⟨rfl, rfl, rfl, rfl, rfl, rfl, trivial⟩ (lX11_writeGreat_8 a0 h a1 a2 a3 a4 m hj20 FU a4 hF)) (fun q1 hF => ?_)
  refine v_iconst (pc := 47) (v := (1 : Int32)) dX11_writeGreat_47 rfl ?_
  refine v_istore (pc := 48) (i := 7) [some (sr (some a0)), some (sr (some (a0 + mo a1))), some (si a2), some (si a3), some (si a4), some (si q1), none, some (si (1 : Int32)), none] dX11_writeGreat_48 (by decide) rfl rfl ?_
  refine v_iload (pc := 50) (i := 5) dX11_writeGreat_50 rfl ?_
  refine v_istore (pc := 52) (i := 6) [some (sr (some a0)), some (sr (some (a0 + mo a1))), some (si a2), some (si a3), some (si a4), some (si q1), some (si q1), some (si (1 : Int32)), none] dX11_writeGreat_52 (by decide) rfl rfl ?_
  refine mg (X := fun q2 => gV G mX11_writeGreat 2 Q 114 [some (sr (some a0)), some (sr (some (a0 + mo a1))), some (si a2), none, some (si a4), some (si q1), some (si q2.1), some (si q2.2), none] [] (0) (0) (jn a0 h m)) hF (fun _ hj19 hF => v_lle [some (sr (some a0)), some (sr (some (a0 + mo a1))), some (si a2), some (si a3), some (si a4), some (si q1), some (si q1), some (si (1 : Int32)), none] ⟨rfl, rfl, rfl, rfl, rfl, rfl, rfl, rfl, trivial⟩ (lX11_writeGreat_54 a0 h a1 a2 a3 a4 q1 m hj19 FU (q1, (1 : Int32)) hF)) (fun q2 hF => ?_)
  refine v_iload (pc := 114) (i := 7) dX11_writeGreat_114 rfl ?_
  refine mg (X := fun q3 => gV G mX11_writeGreat 2 Q 133 [some (sr (some a0)), some (sr (some (a0 + mo a1))), some (si a2), none, some (si a4), some (si q1), none, none, none] [si q3] (0) (0) (jn a0 h m)) hF (fun _ hj4 hF => ?_) (fun q3 hF => ?_)
  · refine v_if_eq (pc := 116) 132 dX11_writeGreat_116 rfl (fun hc => ?_) (fun hc => ?_)
    · replace hF := (okB_if hF).1 hc
      refine v_iconst (pc := 132) (v := (0 : Int32)) dX11_writeGreat_132 rfl ?_
      exact v_lle [some (sr (some a0)), some (sr (some (a0 + mo a1))), some (si a2), none, some (si a4), some (si q1), none, none, none] ⟨rfl, rfl, rfl, rfl, rfl, trivial⟩ (hj4 (0 : Int32) (okB_some hF))
    replace hF := (okB_if hF).2 hc
    refine v_iload (pc := 119) (i := 6) dX11_writeGreat_119 rfl ?_
    refine v_iload (pc := 121) (i := 5) dX11_writeGreat_121 rfl ?_
    refine v_isub (pc := 123) dX11_writeGreat_123 ?_
    refine v_iconst (pc := 124) (v := (1 : Int32)) dX11_writeGreat_124 rfl ?_
    refine v_icmp_le (pc := 125) 132 dX11_writeGreat_125 rfl (fun hc => ?_) (fun hc => ?_)
    · replace hF := (okB_if hF).1 hc
      refine v_iconst (pc := 132) (v := (0 : Int32)) dX11_writeGreat_132 rfl ?_
      exact v_lle [some (sr (some a0)), some (sr (some (a0 + mo a1))), some (si a2), none, some (si a4), some (si q1), none, none, none] ⟨rfl, rfl, rfl, rfl, rfl, trivial⟩ (hj4 (0 : Int32) (okB_some hF))
    replace hF := (okB_if hF).2 hc
    refine v_iconst (pc := 128) (v := (1 : Int32)) dX11_writeGreat_128 rfl ?_
    refine v_goto (pc := 129) 133 dX11_writeGreat_129 rfl ?_
    exact v_lle [some (sr (some a0)), some (sr (some (a0 + mo a1))), some (si a2), none, some (si a4), some (si q1), none, none, none] ⟨rfl, rfl, rfl, rfl, rfl, trivial⟩ (hj4 (1 : Int32) (okB_some hF))
  refine v_istore (pc := 133) (i := 8) [some (sr (some a0)), some (sr (some (a0 + mo a1))), some (si a2), none, some (si a4), some (si q1), none, none, some (si q3)] dX11_writeGreat_133 (by decide) rfl rfl ?_
  refine v_iload (pc := 135) (i := 8) dX11_writeGreat_135 rfl ?_
  refine mg (X := fun q5 => gV G mX11_writeGreat 2 Q 153 [some (sr (some a0)), some (sr (some (a0 + mo a1))), some (si a2), none, some (si a4), some (si q1), none, none, some (si q3)] [] (0) (0) (jn a0 h q5)) hF (fun _ hj6 hF => ?_) (fun q5 hF => ?_)
  · refine v_if_eq (pc := 137) 147 dX11_writeGreat_137 rfl (fun hc => ?_) (fun hc => ?_)
    · replace hF := (okB_if hF).1 hc
      refine v_aload_n (pc := 147) (i := 0) dX11_writeGreat_147 rfl rfl ?_
      refine v_bipush (pc := 148) (v := (32 : Int32)) dX11_writeGreat_148 rfl ?_
      refine chM_V (pc := 150) gU (as := [si (32 : Int32)]) (st := []) (N := mX11_cell) (k := 0) (n := 0) (k1 := 0) (n1 := 0) dX11_writeGreat_150 lkX11_245 caX11_cell cvX11_cell rfl rfl (fun Q1 hq => tX11_cell a0 h (32 : Int32) m Q1 hq) ⟨by decide, by decide⟩ (Nat.le_of_ble_eq_true rfl) rfl hF (fun x7 m8 hF => ?_)
      show gV G mX11_writeGreat 2 Q 153 [some (sr (some a0)), some (sr (some (a0 + mo a1))), some (si a2), none, some (si a4), some (si q1), none, none, some (si q3)] [] (0) (0) (jn a0 h m8)
      exact v_lle [some (sr (some a0)), some (sr (some (a0 + mo a1))), some (si a2), none, some (si a4), some (si q1), none, none, some (si q3)] ⟨rfl, rfl, rfl, rfl, rfl, rfl, trivial⟩ (hj6 m8 (okB_some hF))
    replace hF := (okB_if hF).2 hc
    refine v_iload (pc := 140) (i := 4) dX11_writeGreat_140 rfl ?_
    refine v_iload (pc := 142) (i := 5) dX11_writeGreat_142 rfl ?_
    refine v_icmp_ne (pc := 144) 153 dX11_writeGreat_144 rfl (fun hc => ?_) (fun hc => ?_)
    · replace hF := (okB_if hF).2 hc
      exact v_lle [some (sr (some a0)), some (sr (some (a0 + mo a1))), some (si a2), none, some (si a4), some (si q1), none, none, some (si q3)] ⟨rfl, rfl, rfl, rfl, rfl, rfl, trivial⟩ (hj6 m (okB_some hF))
    replace hF := (okB_if hF).1 hc
    refine v_aload_n (pc := 147) (i := 0) dX11_writeGreat_147 rfl rfl ?_
    refine v_bipush (pc := 148) (v := (32 : Int32)) dX11_writeGreat_148 rfl ?_
    refine chM_V (pc := 150) gU (as := [si (32 : Int32)]) (st := []) (N := mX11_cell) (k := 0) (n := 0) (k1 := 0) (n1 := 0) dX11_writeGreat_150 lkX11_245 caX11_cell cvX11_cell rfl rfl (fun Q1 hq => tX11_cell a0 h (32 : Int32) m Q1 hq) ⟨by decide, by decide⟩ (Nat.le_of_ble_eq_true rfl) rfl hF (fun x9 m10 hF => ?_)
    show gV G mX11_writeGreat 2 Q 153 [some (sr (some a0)), some (sr (some (a0 + mo a1))), some (si a2), none, some (si a4), some (si q1), none, none, some (si q3)] [] (0) (0) (jn a0 h m10)
    exact v_lle [some (sr (some a0)), some (sr (some (a0 + mo a1))), some (si a2), none, some (si a4), some (si q1), none, none, some (si q3)] ⟨rfl, rfl, rfl, rfl, rfl, rfl, trivial⟩ (hj6 m10 (okB_some hF))
  refine v_iload (pc := 153) (i := 8) dX11_writeGreat_153 rfl ?_
  refine mg (X := fun q11 => gV G mX11_writeGreat 2 Q 171 [some (sr (some a0)), some (sr (some (a0 + mo a1))), some (si a2), none, some (si a4), none, none, none, none] [] (0) (0) (jn a0 h q11)) hF (fun _ hj12 hF => ?_) (fun q11 hF => ?_)
  · refine v_if_eq (pc := 155) 171 dX11_writeGreat_155 rfl (fun hc => ?_) (fun hc => ?_)
    · replace hF := (okB_if hF).1 hc
      exact v_lle [some (sr (some a0)), some (sr (some (a0 + mo a1))), some (si a2), none, some (si a4), none, none, none, none] ⟨rfl, rfl, rfl, rfl, trivial⟩ (hj12 q5 (okB_some hF))
    replace hF := (okB_if hF).2 hc
    refine v_iload (pc := 158) (i := 4) dX11_writeGreat_158 rfl ?_
    refine v_iload (pc := 160) (i := 5) dX11_writeGreat_160 rfl ?_
    refine v_icmp_ne (pc := 162) 171 dX11_writeGreat_162 rfl (fun hc => ?_) (fun hc => ?_)
    · replace hF := (okB_if hF).2 hc
      exact v_lle [some (sr (some a0)), some (sr (some (a0 + mo a1))), some (si a2), none, some (si a4), none, none, none, none] ⟨rfl, rfl, rfl, rfl, trivial⟩ (hj12 q5 (okB_some hF))
    replace hF := (okB_if hF).1 hc
    refine v_aload_n (pc := 165) (i := 0) dX11_writeGreat_165 rfl rfl ?_
    refine v_bipush (pc := 166) (v := (32 : Int32)) dX11_writeGreat_166 rfl ?_
    refine chM_V (pc := 168) gU (as := [si (32 : Int32)]) (st := []) (N := mX11_cell) (k := 0) (n := 0) (k1 := 0) (n1 := 0) dX11_writeGreat_168 lkX11_245 caX11_cell cvX11_cell rfl rfl (fun Q1 hq => tX11_cell a0 h (32 : Int32) q5 Q1 hq) ⟨by decide, by decide⟩ (Nat.le_of_ble_eq_true rfl) rfl hF (fun x13 m14 hF => ?_)
    show gV G mX11_writeGreat 2 Q 171 [some (sr (some a0)), some (sr (some (a0 + mo a1))), some (si a2), none, some (si a4), some (si q1), none, none, some (si q3)] [] (0) (0) (jn a0 h m14)
    exact v_lle [some (sr (some a0)), some (sr (some (a0 + mo a1))), some (si a2), none, some (si a4), none, none, none, none] ⟨rfl, rfl, rfl, rfl, trivial⟩ (hj12 m14 (okB_some hF))
  refine v_aload_n (pc := 171) (i := 0) dX11_writeGreat_171 rfl rfl ?_
  refine v_aload_n (pc := 172) (i := 0) dX11_writeGreat_172 rfl rfl ?_
  refine v_aload_n (pc := 173) (i := 1) dX11_writeGreat_173 rfl rfl ?_
  refine v_iload_n (pc := 174) (i := 2) dX11_writeGreat_174 rfl rfl ?_
  refine v_iload (pc := 175) (i := 4) dX11_writeGreat_175 rfl ?_
  refine v_iadd (pc := 177) dX11_writeGreat_177 ?_
  refine m_iald (pc := 178) (j := a1) dX11_writeGreat_178 hF (fun x15 hF => ?_)
  refine v_bipush (pc := 179) (v := (65 : Int32)) dX11_writeGreat_179 rfl ?_
  refine v_isub (pc := 181) dX11_writeGreat_181 ?_
  refine cpM_V (pc := 182) gI (as := [si (x15 - (65 : Int32))]) (st := [sr (some a0)]) (N := mX11_points) (k := 0) (n := 0) (k1 := 0) (n1 := 0) dX11_writeGreat_182 lkX11_248 caX11_points cvX11_points rfl rfl (fun Q1 hq => tX11_points a0 h (x15 - (65 : Int32)) q11 Q1 hq) ⟨by decide, by decide⟩ (Nat.le_of_ble_eq_true rfl) rfl hF (fun x16 hF => ?_)
  show gV G mX11_writeGreat 2 Q 185 [some (sr (some a0)), some (sr (some (a0 + mo a1))), some (si a2), none, some (si a4), none, none, none, none] [si x16, sr (some a0)] (0) (0) (jn a0 h q11)
  refine chM_V (pc := 185) gU (as := [si x16]) (st := []) (N := mX11_cell) (k := 0) (n := 0) (k1 := 0) (n1 := 0) dX11_writeGreat_185 lkX11_245 caX11_cell cvX11_cell rfl rfl (fun Q1 hq => tX11_cell a0 h x16 q11 Q1 hq) ⟨by decide, by decide⟩ (Nat.le_of_ble_eq_true rfl) rfl hF (fun x17 m18 hF => ?_)
  show gV G mX11_writeGreat 2 Q 188 [some (sr (some a0)), some (sr (some (a0 + mo a1))), some (si a2), none, some (si a4), none, none, none, none] [] (0) (0) (jn a0 h m18)
  exact v_ret (pc := 188) dX11_writeGreat_188 rfl (okr hF fun q => q)
