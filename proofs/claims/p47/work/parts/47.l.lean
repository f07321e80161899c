/-! ===== the law's methods over its arrays: their functions and rows ===== -/
theorem dL_rows_0 : decode cL_rows 0 = .ok (.aload_n 0, 1) := by decide +kernel
theorem dL_rows_1 : decode cL_rows 1 = .ok (.iconst 1, 1) := by decide +kernel
theorem dL_rows_2 : decode cL_rows 2 = .ok (.iaload, 1) := by decide +kernel
theorem dL_rows_3 : decode cL_rows 3 = .ok (.istore_n 3, 1) := by decide +kernel
theorem dL_rows_4 : decode cL_rows 4 = .ok (.aload_n 1, 1) := by decide +kernel
theorem dL_rows_5 : decode cL_rows 5 = .ok (.bipush 6, 2) := by decide +kernel
theorem dL_rows_7 : decode cL_rows 7 = .ok (.iload_n 3, 1) := by decide +kernel
theorem dL_rows_8 : decode cL_rows 8 = .ok (.imul, 1) := by decide +kernel
theorem dL_rows_9 : decode cL_rows 9 = .ok (.iconst 1, 1) := by decide +kernel
theorem dL_rows_10 : decode cL_rows 10 = .ok (.iadd, 1) := by decide +kernel
theorem dL_rows_11 : decode cL_rows 11 = .ok (.iaload, 1) := by decide +kernel
theorem dL_rows_12 : decode cL_rows 12 = .ok (.istore 4, 2) := by decide +kernel
theorem dL_rows_14 : decode cL_rows 14 = .ok (.iload 4, 2) := by decide +kernel
theorem dL_rows_16 : decode cL_rows 16 = .ok (.ifCond .lt 15, 3) := by decide +kernel
theorem dL_rows_19 : decode cL_rows 19 = .ok (.aload_n 1, 1) := by decide +kernel
theorem dL_rows_20 : decode cL_rows 20 = .ok (.bipush 6, 2) := by decide +kernel
theorem dL_rows_22 : decode cL_rows 22 = .ok (.iload 4, 2) := by decide +kernel
theorem dL_rows_24 : decode cL_rows 24 = .ok (.imul, 1) := by decide +kernel
theorem dL_rows_25 : decode cL_rows 25 = .ok (.iaload, 1) := by decide +kernel
theorem dL_rows_26 : decode cL_rows 26 = .ok (.bipush 6, 2) := by decide +kernel
theorem dL_rows_28 : decode cL_rows 28 = .ok (.if_icmp .eq 5, 3) := by decide +kernel
theorem dL_rows_31 : decode cL_rows 31 = .ok (.iconst (-1), 1) := by decide +kernel
theorem dL_rows_32 : decode cL_rows 32 = .ok (.ireturn, 1) := by decide +kernel
theorem dL_rows_33 : decode cL_rows 33 = .ok (.aload_n 1, 1) := by decide +kernel
theorem dL_rows_34 : decode cL_rows 34 = .ok (.bipush 6, 2) := by decide +kernel
theorem dL_rows_36 : decode cL_rows 36 = .ok (.iload 4, 2) := by decide +kernel
theorem dL_rows_38 : decode cL_rows 38 = .ok (.imul, 1) := by decide +kernel
theorem dL_rows_39 : decode cL_rows 39 = .ok (.iconst 1, 1) := by decide +kernel
theorem dL_rows_40 : decode cL_rows 40 = .ok (.iadd, 1) := by decide +kernel
theorem dL_rows_41 : decode cL_rows 41 = .ok (.iaload, 1) := by decide +kernel
theorem dL_rows_42 : decode cL_rows 42 = .ok (.istore 5, 2) := by decide +kernel
theorem dL_rows_44 : decode cL_rows 44 = .ok (.aload_n 0, 1) := by decide +kernel
theorem dL_rows_45 : decode cL_rows 45 = .ok (.aload_n 1, 1) := by decide +kernel
theorem dL_rows_46 : decode cL_rows 46 = .ok (.iload 5, 2) := by decide +kernel
theorem dL_rows_48 : decode cL_rows 48 = .ok (.invokestatic 71, 3) := by decide +kernel
theorem dL_rows_51 : decode cL_rows 51 = .ok (.istore 6, 2) := by decide +kernel
theorem dL_rows_53 : decode cL_rows 53 = .ok (.aload_n 1, 1) := by decide +kernel
theorem dL_rows_54 : decode cL_rows 54 = .ok (.bipush 6, 2) := by decide +kernel
theorem dL_rows_56 : decode cL_rows 56 = .ok (.iload 4, 2) := by decide +kernel
theorem dL_rows_58 : decode cL_rows 58 = .ok (.imul, 1) := by decide +kernel
theorem dL_rows_59 : decode cL_rows 59 = .ok (.iconst 2, 1) := by decide +kernel
theorem dL_rows_60 : decode cL_rows 60 = .ok (.iadd, 1) := by decide +kernel
theorem dL_rows_61 : decode cL_rows 61 = .ok (.iaload, 1) := by decide +kernel
theorem dL_rows_62 : decode cL_rows 62 = .ok (.iload_n 2, 1) := by decide +kernel
theorem dL_rows_63 : decode cL_rows 63 = .ok (.iadd, 1) := by decide +kernel
theorem dL_rows_64 : decode cL_rows 64 = .ok (.istore 7, 2) := by decide +kernel
theorem dL_rows_66 : decode cL_rows 66 = .ok (.iload 7, 2) := by decide +kernel
theorem dL_rows_68 : decode cL_rows 68 = .ok (.ifCond .lt 95, 3) := by decide +kernel
theorem dL_rows_71 : decode cL_rows 71 = .ok (.iload 7, 2) := by decide +kernel
theorem dL_rows_73 : decode cL_rows 73 = .ok (.iload 6, 2) := by decide +kernel
theorem dL_rows_75 : decode cL_rows 75 = .ok (.if_icmp .ge 88, 3) := by decide +kernel
theorem dL_rows_78 : decode cL_rows 78 = .ok (.aload_n 0, 1) := by decide +kernel
theorem dL_rows_79 : decode cL_rows 79 = .ok (.aload_n 1, 1) := by decide +kernel
theorem dL_rows_80 : decode cL_rows 80 = .ok (.iload 5, 2) := by decide +kernel
theorem dL_rows_82 : decode cL_rows 82 = .ok (.iload 7, 2) := by decide +kernel
theorem dL_rows_84 : decode cL_rows 84 = .ok (.iconst 1, 1) := by decide +kernel
theorem dL_rows_85 : decode cL_rows 85 = .ok (.invokestatic 16, 3) := by decide +kernel
theorem dL_rows_88 : decode cL_rows 88 = .ok (.istore 8, 2) := by decide +kernel
theorem dL_rows_90 : decode cL_rows 90 = .ok (.aload_n 0, 1) := by decide +kernel
theorem dL_rows_91 : decode cL_rows 91 = .ok (.aload_n 1, 1) := by decide +kernel
theorem dL_rows_92 : decode cL_rows 92 = .ok (.iload 8, 2) := by decide +kernel
theorem dL_rows_94 : decode cL_rows 94 = .ok (.aload_n 1, 1) := by decide +kernel
theorem dL_rows_95 : decode cL_rows 95 = .ok (.bipush 6, 2) := by decide +kernel
theorem dL_rows_97 : decode cL_rows 97 = .ok (.iload_n 3, 1) := by decide +kernel
theorem dL_rows_98 : decode cL_rows 98 = .ok (.imul, 1) := by decide +kernel
theorem dL_rows_99 : decode cL_rows 99 = .ok (.iconst 2, 1) := by decide +kernel
theorem dL_rows_100 : decode cL_rows 100 = .ok (.iadd, 1) := by decide +kernel
theorem dL_rows_101 : decode cL_rows 101 = .ok (.iaload, 1) := by decide +kernel
theorem dL_rows_102 : decode cL_rows 102 = .ok (.iconst 1, 1) := by decide +kernel
theorem dL_rows_103 : decode cL_rows 103 = .ok (.invokestatic 16, 3) := by decide +kernel
theorem dL_rows_106 : decode cL_rows 106 = .ok (.istore 9, 2) := by decide +kernel
theorem dL_rows_108 : decode cL_rows 108 = .ok (.aload_n 1, 1) := by decide +kernel
theorem dL_rows_109 : decode cL_rows 109 = .ok (.iload 8, 2) := by decide +kernel
theorem dL_rows_111 : decode cL_rows 111 = .ok (.invokestatic 13, 3) := by decide +kernel
theorem dL_rows_114 : decode cL_rows 114 = .ok (.ifCond .ne 40, 3) := by decide +kernel
theorem dL_rows_117 : decode cL_rows 117 = .ok (.iload 9, 2) := by decide +kernel
theorem dL_rows_119 : decode cL_rows 119 = .ok (.ifCond .lt 35, 3) := by decide +kernel
theorem dL_rows_122 : decode cL_rows 122 = .ok (.aload_n 1, 1) := by decide +kernel
theorem dL_rows_123 : decode cL_rows 123 = .ok (.bipush 6, 2) := by decide +kernel
theorem dL_rows_125 : decode cL_rows 125 = .ok (.iload 9, 2) := by decide +kernel
theorem dL_rows_127 : decode cL_rows 127 = .ok (.imul, 1) := by decide +kernel
theorem dL_rows_128 : decode cL_rows 128 = .ok (.iconst 2, 1) := by decide +kernel
theorem dL_rows_129 : decode cL_rows 129 = .ok (.iadd, 1) := by decide +kernel
theorem dL_rows_130 : decode cL_rows 130 = .ok (.iaload, 1) := by decide +kernel
theorem dL_rows_131 : decode cL_rows 131 = .ok (.aload_n 1, 1) := by decide +kernel
theorem dL_rows_132 : decode cL_rows 132 = .ok (.bipush 6, 2) := by decide +kernel
theorem dL_rows_134 : decode cL_rows 134 = .ok (.iload_n 3, 1) := by decide +kernel
theorem dL_rows_135 : decode cL_rows 135 = .ok (.imul, 1) := by decide +kernel
theorem dL_rows_136 : decode cL_rows 136 = .ok (.iconst 2, 1) := by decide +kernel
theorem dL_rows_137 : decode cL_rows 137 = .ok (.iadd, 1) := by decide +kernel
theorem dL_rows_138 : decode cL_rows 138 = .ok (.iaload, 1) := by decide +kernel
theorem dL_rows_139 : decode cL_rows 139 = .ok (.if_icmp .ne 15, 3) := by decide +kernel
theorem dL_rows_142 : decode cL_rows 142 = .ok (.aload_n 1, 1) := by decide +kernel
theorem dL_rows_143 : decode cL_rows 143 = .ok (.iload 9, 2) := by decide +kernel
theorem dL_rows_145 : decode cL_rows 145 = .ok (.invokestatic 13, 3) := by decide +kernel
theorem dL_rows_148 : decode cL_rows 148 = .ok (.ifCond .ne 6, 3) := by decide +kernel
theorem dL_rows_151 : decode cL_rows 151 = .ok (.iload 9, 2) := by decide +kernel
theorem dL_rows_153 : decode cL_rows 153 = .ok (.ireturn, 1) := by decide +kernel
theorem dL_rows_154 : decode cL_rows 154 = .ok (.iload 7, 2) := by decide +kernel
theorem dL_rows_156 : decode cL_rows 156 = .ok (.iload_n 2, 1) := by decide +kernel
theorem dL_rows_157 : decode cL_rows 157 = .ok (.iadd, 1) := by decide +kernel
theorem dL_rows_158 : decode cL_rows 158 = .ok (.istore 7, 2) := by decide +kernel
theorem dL_rows_160 : decode cL_rows 160 = .ok (.goto (-94), 3) := by decide +kernel
theorem dL_rows_163 : decode cL_rows 163 = .ok (.iconst (-1), 1) := by decide +kernel
theorem dL_rows_164 : decode cL_rows 164 = .ok (.ireturn, 1) := by decide +kernel
theorem dL_seeks_0 : decode cL_seeks 0 = .ok (.iconst (-1), 1) := by decide +kernel
theorem dL_seeks_1 : decode cL_seeks 1 = .ok (.istore 4, 2) := by decide +kernel
theorem dL_seeks_3 : decode cL_seeks 3 = .ok (.aload_n 0, 1) := by decide +kernel
theorem dL_seeks_4 : decode cL_seeks 4 = .ok (.aload_n 1, 1) := by decide +kernel
theorem dL_seeks_5 : decode cL_seeks 5 = .ok (.aload_n 0, 1) := by decide +kernel
theorem dL_seeks_6 : decode cL_seeks 6 = .ok (.iconst 1, 1) := by decide +kernel
theorem dL_seeks_7 : decode cL_seeks 7 = .ok (.iaload, 1) := by decide +kernel
theorem dL_seeks_8 : decode cL_seeks 8 = .ok (.invokestatic 67, 3) := by decide +kernel
theorem dL_seeks_11 : decode cL_seeks 11 = .ok (.istore 5, 2) := by decide +kernel
theorem dL_seeks_13 : decode cL_seeks 13 = .ok (.iload 5, 2) := by decide +kernel
theorem dL_seeks_15 : decode cL_seeks 15 = .ok (.ifCond .lt 61, 3) := by decide +kernel
theorem dL_seeks_18 : decode cL_seeks 18 = .ok (.iload 4, 2) := by decide +kernel
theorem dL_seeks_20 : decode cL_seeks 20 = .ok (.ifCond .ge 56, 3) := by decide +kernel
theorem dL_seeks_23 : decode cL_seeks 23 = .ok (.iload_n 2, 1) := by decide +kernel
theorem dL_seeks_24 : decode cL_seeks 24 = .ok (.ifCond .ge 21, 3) := by decide +kernel
theorem dL_seeks_27 : decode cL_seeks 27 = .ok (.aload_n 1, 1) := by decide +kernel
theorem dL_seeks_28 : decode cL_seeks 28 = .ok (.iload 5, 2) := by decide +kernel
theorem dL_seeks_30 : decode cL_seeks 30 = .ok (.invokestatic 74, 3) := by decide +kernel
theorem dL_seeks_33 : decode cL_seeks 33 = .ok (.ifCond .eq 8, 3) := by decide +kernel
theorem dL_seeks_36 : decode cL_seeks 36 = .ok (.iload 5, 2) := by decide +kernel
theorem dL_seeks_38 : decode cL_seeks 38 = .ok (.goto 24, 3) := by decide +kernel
theorem dL_seeks_41 : decode cL_seeks 41 = .ok (.iconst (-1), 1) := by decide +kernel
theorem dL_seeks_42 : decode cL_seeks 42 = .ok (.goto 20, 3) := by decide +kernel
theorem dL_seeks_45 : decode cL_seeks 45 = .ok (.aload_n 1, 1) := by decide +kernel
theorem dL_seeks_46 : decode cL_seeks 46 = .ok (.bipush 6, 2) := by decide +kernel
theorem dL_seeks_48 : decode cL_seeks 48 = .ok (.iload 5, 2) := by decide +kernel
theorem dL_seeks_50 : decode cL_seeks 50 = .ok (.imul, 1) := by decide +kernel
theorem dL_seeks_51 : decode cL_seeks 51 = .ok (.iaload, 1) := by decide +kernel
theorem dL_seeks_52 : decode cL_seeks 52 = .ok (.iload_n 2, 1) := by decide +kernel
theorem dL_seeks_53 : decode cL_seeks 53 = .ok (.if_icmp .ne 8, 3) := by decide +kernel
theorem dL_seeks_56 : decode cL_seeks 56 = .ok (.iload 5, 2) := by decide +kernel
theorem dL_seeks_58 : decode cL_seeks 58 = .ok (.goto 4, 3) := by decide +kernel
theorem dL_seeks_61 : decode cL_seeks 61 = .ok (.iconst (-1), 1) := by decide +kernel
theorem dL_seeks_62 : decode cL_seeks 62 = .ok (.istore 4, 2) := by decide +kernel
theorem dL_seeks_64 : decode cL_seeks 64 = .ok (.aload_n 0, 1) := by decide +kernel
theorem dL_seeks_65 : decode cL_seeks 65 = .ok (.aload_n 1, 1) := by decide +kernel
theorem dL_seeks_66 : decode cL_seeks 66 = .ok (.iload 5, 2) := by decide +kernel
theorem dL_seeks_68 : decode cL_seeks 68 = .ok (.invokestatic 67, 3) := by decide +kernel
theorem dL_seeks_71 : decode cL_seeks 71 = .ok (.istore 5, 2) := by decide +kernel
theorem dL_seeks_73 : decode cL_seeks 73 = .ok (.goto (-60), 3) := by decide +kernel
theorem dL_seeks_76 : decode cL_seeks 76 = .ok (.iconst 0, 1) := by decide +kernel
theorem dL_seeks_77 : decode cL_seeks 77 = .ok (.istore 5, 2) := by decide +kernel
theorem dL_seeks_79 : decode cL_seeks 79 = .ok (.iload 5, 2) := by decide +kernel
theorem dL_seeks_81 : decode cL_seeks 81 = .ok (.ifCond .lt 41, 3) := by decide +kernel
theorem dL_seeks_84 : decode cL_seeks 84 = .ok (.iload 4, 2) := by decide +kernel
theorem dL_seeks_86 : decode cL_seeks 86 = .ok (.ifCond .ge 36, 3) := by decide +kernel
theorem dL_seeks_89 : decode cL_seeks 89 = .ok (.iload_n 3, 1) := by decide +kernel
theorem dL_seeks_90 : decode cL_seeks 90 = .ok (.ifCond .eq 32, 3) := by decide +kernel
theorem dL_seeks_93 : decode cL_seeks 93 = .ok (.aload_n 1, 1) := by decide +kernel
theorem dL_seeks_94 : decode cL_seeks 94 = .ok (.iload 5, 2) := by decide +kernel
theorem dL_seeks_96 : decode cL_seeks 96 = .ok (.invokestatic 74, 3) := by decide +kernel
theorem dL_seeks_99 : decode cL_seeks 99 = .ok (.ifCond .eq 8, 3) := by decide +kernel
theorem dL_seeks_102 : decode cL_seeks 102 = .ok (.iload 5, 2) := by decide +kernel
theorem dL_seeks_104 : decode cL_seeks 104 = .ok (.goto 4, 3) := by decide +kernel
theorem dL_seeks_107 : decode cL_seeks 107 = .ok (.iconst (-1), 1) := by decide +kernel
theorem dL_seeks_108 : decode cL_seeks 108 = .ok (.istore 4, 2) := by decide +kernel
theorem dL_seeks_110 : decode cL_seeks 110 = .ok (.aload_n 0, 1) := by decide +kernel
theorem dL_seeks_111 : decode cL_seeks 111 = .ok (.aload_n 1, 1) := by decide +kernel
theorem dL_seeks_112 : decode cL_seeks 112 = .ok (.iload 5, 2) := by decide +kernel
theorem dL_seeks_114 : decode cL_seeks 114 = .ok (.invokestatic 67, 3) := by decide +kernel
theorem dL_seeks_117 : decode cL_seeks 117 = .ok (.istore 5, 2) := by decide +kernel
theorem dL_seeks_119 : decode cL_seeks 119 = .ok (.goto (-40), 3) := by decide +kernel
theorem dL_seeks_122 : decode cL_seeks 122 = .ok (.iload 4, 2) := by decide +kernel
theorem dL_seeks_124 : decode cL_seeks 124 = .ok (.ireturn, 1) := by decide +kernel
abbrev mL_rows : gM := (yL_rows, cL_rows, 10, (Option.some FieldType.int), [])
theorem caL_rows : cal mL_rows 3 := ⟨xw 929 (by decide +kernel) rfl, xw 28 (by decide +kernel) rfl, by decide, by decide +kernel⟩
theorem csL_rows : Cond.static yL_rows ∈ XW := xw 928 (by decide +kernel) rfl
abbrev mL_seeks : gM := (yL_seeks, cL_seeks, 6, (Option.some FieldType.int), [])
theorem caL_seeks : cal mL_seeks 4 := ⟨xw 935 (by decide +kernel) rfl, xw 28 (by decide +kernel) rfl, by decide, by decide +kernel⟩
theorem csL_seeks : Cond.static yL_seeks ∈ XW := xw 934 (by decide +kernel) rfl
theorem lkL_71 : Cond.methodLink RL 71 yL_kids ∈ XW := xw 930 (by decide +kernel) rfl
theorem lkL_74 : Cond.methodLink RL 74 yL_canFocus ∈ XW := xw 936 (by decide +kernel) rfl
/-! BrailleDeskLaw.rows -/
theorem lL_rows_66 {G : gG} {Q : hQ} {P : (Int32 ⊕ Unit) → Prop} {k n : Nat} (c0 : (Option Nat)) (c1 : (Option Nat)) (c2 : Int32) (c3 : Int32) (c5 : Int32) (c6 : Int32) (h : hp) (hJ : ∀ q : Unit, P (.inr q) → gV G mL_rows 2 Q 163 [none, none, none, none, none, none, none, none, none, none] [] (k) (n) h) (hR : ∀ r : Int32, P (.inl (r)) → (pP gI Q h) r) : ∀ (fu : Nat) (a : Int32), okB (itr (fL_rows_B66 c0 c1 c2 c3 c5 c6 h) fu a) P → gV G mL_rows 2 Q 66 [some (sr c0), some (sr c1), some (si c2), some (si c3), none, some (si c5), some (si c6), some (si a), none, none] [] (k) (n) h :=
  lpg (X := fun (a : Int32) => gV G mL_rows 2 Q 66 [some (sr c0), some (sr c1), some (si c2), some (si c3), none, some (si c5), some (si c6), some (si a), none, none] [] (k) (n) h) (fun a P2 hL hE hF => by
    delta fL_rows_B66 at hF
    refine v_iload (pc := 66) (i := 7) dL_rows_66 rfl ?_
    refine v_if_lt (pc := 68) 163 dL_rows_68 rfl (fun hc => ?_) (fun hc => ?_)
    · replace hF := (okB_if hF).1 hc
      exact v_lle [none, none, none, none, none, none, none, none, none, none] trivial (hJ () (hE _ (okB_some hF)))
    replace hF := (okB_if hF).2 hc
    refine v_iload (pc := 71) (i := 7) dL_rows_71 rfl ?_
    refine v_iload (pc := 73) (i := 6) dL_rows_73 rfl ?_
    refine v_icmp_ge (pc := 75) 163 dL_rows_75 rfl (fun hc => ?_) (fun hc => ?_)
    · replace hF := (okB_if hF).1 hc
      exact v_lle [none, none, none, none, none, none, none, none, none, none] trivial (hJ () (hE _ (okB_some hF)))
    replace hF := (okB_if hF).2 hc
    refine v_aload_n (pc := 78) (i := 0) dL_rows_78 rfl rfl ?_
    refine v_aload_n (pc := 79) (i := 1) dL_rows_79 rfl rfl ?_
    refine v_iload (pc := 80) (i := 5) dL_rows_80 rfl ?_
    refine v_iload (pc := 82) (i := 7) dL_rows_82 rfl ?_
    refine v_iconst (pc := 84) (v := (1 : Int32)) dL_rows_84 rfl ?_
    refine cp_S (pc := 85) gI (as := [sr c0, sr c1, si c5, si a, si (1 : Int32)]) (st := []) (N := mL_kid) (k := k) (n := n) (k1 := 0) (n1 := 0) dL_rows_85 lkL_16 caL_kid csL_kid rfl (fun Q1 hq => tL_kid c0 c1 c5 a (1 : Int32) h Q1 hq) ⟨by decide, by decide⟩ (Nat.le_of_ble_eq_true rfl) rfl hF (fun x1 hF => ?_)
    show gV G mL_rows 2 Q 88 [some (sr c0), some (sr c1), some (si c2), some (si c3), none, some (si c5), some (si c6), some (si a), none, none] [si x1] (k) (n) h
    refine v_istore (pc := 88) (i := 8) [some (sr c0), some (sr c1), some (si c2), some (si c3), none, some (si c5), some (si c6), some (si a), some (si x1), none] dL_rows_88 (by decide) rfl rfl ?_
    refine v_aload_n (pc := 90) (i := 0) dL_rows_90 rfl rfl ?_
    refine v_aload_n (pc := 91) (i := 1) dL_rows_91 rfl rfl ?_
    refine v_iload (pc := 92) (i := 8) dL_rows_92 rfl ?_
    refine v_aload_n (pc := 94) (i := 1) dL_rows_94 rfl rfl ?_
    refine v_bipush (pc := 95) (v := (6 : Int32)) dL_rows_95 rfl ?_
    refine v_iload_n (pc := 97) (i := 3) dL_rows_97 rfl rfl ?_
    refine v_imul (pc := 98) dL_rows_98 ?_
    refine v_iconst (pc := 99) (v := (2 : Int32)) dL_rows_99 rfl ?_
    refine v_iadd (pc := 100) dL_rows_100 ?_
    refine s_iald (pc := 101) dL_rows_101 hF (fun x2 hF => ?_)
    refine v_iconst (pc := 102) (v := (1 : Int32)) dL_rows_102 rfl ?_
    refine cp_S (pc := 103) gI (as := [sr c0, sr c1, si x1, si x2, si (1 : Int32)]) (st := []) (N := mL_kid) (k := k) (n := n) (k1 := 0) (n1 := 0) dL_rows_103 lkL_16 caL_kid csL_kid rfl (fun Q1 hq => tL_kid c0 c1 x1 x2 (1 : Int32) h Q1 hq) ⟨by decide, by decide⟩ (Nat.le_of_ble_eq_true rfl) rfl hF (fun x3 hF => ?_)
    show gV G mL_rows 2 Q 106 [some (sr c0), some (sr c1), some (si c2), some (si c3), none, some (si c5), some (si c6), some (si a), some (si x1), none] [si x3] (k) (n) h
    refine v_istore (pc := 106) (i := 9) [some (sr c0), some (sr c1), some (si c2), some (si c3), none, some (si c5), some (si c6), some (si a), some (si x1), some (si x3)] dL_rows_106 (by decide) rfl rfl ?_
    refine v_aload_n (pc := 108) (i := 1) dL_rows_108 rfl rfl ?_
    refine v_iload (pc := 109) (i := 8) dL_rows_109 rfl ?_
    refine cp_S (pc := 111) gI (as := [sr c1, si x1]) (st := []) (N := mL_isHidden) (k := k) (n := n) (k1 := 0) (n1 := 0) dL_rows_111 lkL_13 caL_isHidden csL_isHidden rfl (fun Q1 hq => tL_isHidden c1 x1 h Q1 hq) ⟨by decide, by decide⟩ (Nat.le_of_ble_eq_true rfl) rfl hF (fun x4 hF => ?_)
    show gV G mL_rows 2 Q 114 [some (sr c0), some (sr c1), some (si c2), some (si c3), none, some (si c5), some (si c6), some (si a), some (si x1), some (si x3)] [si x4] (k) (n) h
    refine v_if_ne (pc := 114) 154 dL_rows_114 rfl (fun hc => ?_) (fun hc => ?_)
    · replace hF := (okB_if hF).2 hc
      refine v_iload (pc := 154) (i := 7) dL_rows_154 rfl ?_
      refine v_iload_n (pc := 156) (i := 2) dL_rows_156 rfl rfl ?_
      refine v_iadd (pc := 157) dL_rows_157 ?_
      refine v_istore (pc := 158) (i := 7) [some (sr c0), some (sr c1), some (si c2), some (si c3), none, some (si c5), some (si c6), some (si (a + c2)), some (si x1), some (si x3)] dL_rows_158 (by decide) rfl rfl ?_
      refine v_goto (pc := 160) 66 dL_rows_160 rfl ?_
      exact v_lle [some (sr c0), some (sr c1), some (si c2), some (si c3), none, some (si c5), some (si c6), some (si (a + c2)), none, none] ⟨rfl, rfl, rfl, rfl, rfl, rfl, rfl, trivial⟩ (hL (a + c2) (okB_some hF))
    replace hF := (okB_if hF).1 hc
    refine v_iload (pc := 117) (i := 9) dL_rows_117 rfl ?_
    refine v_if_lt (pc := 119) 154 dL_rows_119 rfl (fun hc => ?_) (fun hc => ?_)
    · replace hF := (okB_if hF).1 hc
      refine v_iload (pc := 154) (i := 7) dL_rows_154 rfl ?_
      refine v_iload_n (pc := 156) (i := 2) dL_rows_156 rfl rfl ?_
      refine v_iadd (pc := 157) dL_rows_157 ?_
      refine v_istore (pc := 158) (i := 7) [some (sr c0), some (sr c1), some (si c2), some (si c3), none, some (si c5), some (si c6), some (si (a + c2)), some (si x1), some (si x3)] dL_rows_158 (by decide) rfl rfl ?_
      refine v_goto (pc := 160) 66 dL_rows_160 rfl ?_
      exact v_lle [some (sr c0), some (sr c1), some (si c2), some (si c3), none, some (si c5), some (si c6), some (si (a + c2)), none, none] ⟨rfl, rfl, rfl, rfl, rfl, rfl, rfl, trivial⟩ (hL (a + c2) (okB_some hF))
    replace hF := (okB_if hF).2 hc
    refine v_aload_n (pc := 122) (i := 1) dL_rows_122 rfl rfl ?_
    refine v_bipush (pc := 123) (v := (6 : Int32)) dL_rows_123 rfl ?_
    refine v_iload (pc := 125) (i := 9) dL_rows_125 rfl ?_
    refine v_imul (pc := 127) dL_rows_127 ?_
    refine v_iconst (pc := 128) (v := (2 : Int32)) dL_rows_128 rfl ?_
    refine v_iadd (pc := 129) dL_rows_129 ?_
    refine s_iald (pc := 130) dL_rows_130 hF (fun x5 hF => ?_)
    refine v_aload_n (pc := 131) (i := 1) dL_rows_131 rfl rfl ?_
    refine v_bipush (pc := 132) (v := (6 : Int32)) dL_rows_132 rfl ?_
    refine v_iload_n (pc := 134) (i := 3) dL_rows_134 rfl rfl ?_
    refine v_imul (pc := 135) dL_rows_135 ?_
    refine v_iconst (pc := 136) (v := (2 : Int32)) dL_rows_136 rfl ?_
    refine v_iadd (pc := 137) dL_rows_137 ?_
    refine s_iald (pc := 138) dL_rows_138 hF (fun x6 hF => ?_)
    refine v_icmp_ne (pc := 139) 154 dL_rows_139 rfl (fun hc => ?_) (fun hc => ?_)
    · replace hF := (okB_if hF).2 hc
      refine v_iload (pc := 154) (i := 7) dL_rows_154 rfl ?_
      refine v_iload_n (pc := 156) (i := 2) dL_rows_156 rfl rfl ?_
      refine v_iadd (pc := 157) dL_rows_157 ?_
      refine v_istore (pc := 158) (i := 7) [some (sr c0), some (sr c1), some (si c2), some (si c3), none, some (si c5), some (si c6), some (si (a + c2)), some (si x1), some (si x3)] dL_rows_158 (by decide) rfl rfl ?_
      refine v_goto (pc := 160) 66 dL_rows_160 rfl ?_
      exact v_lle [some (sr c0), some (sr c1), some (si c2), some (si c3), none, some (si c5), some (si c6), some (si (a + c2)), none, none] ⟨rfl, rfl, rfl, rfl, rfl, rfl, rfl, trivial⟩ (hL (a + c2) (okB_some hF))
    replace hF := (okB_if hF).1 hc
    refine v_aload_n (pc := 142) (i := 1) dL_rows_142 rfl rfl ?_
    refine v_iload (pc := 143) (i := 9) dL_rows_143 rfl ?_
    refine cp_S (pc := 145) gI (as := [sr c1, si x3]) (st := []) (N := mL_isHidden) (k := k) (n := n) (k1 := 0) (n1 := 0) dL_rows_145 lkL_13 caL_isHidden csL_isHidden rfl (fun Q1 hq => tL_isHidden c1 x3 h Q1 hq) ⟨by decide, by decide⟩ (Nat.le_of_ble_eq_true rfl) rfl hF (fun x7 hF => ?_)
    show gV G mL_rows 2 Q 148 [some (sr c0), some (sr c1), some (si c2), some (si c3), none, some (si c5), some (si c6), some (si a), some (si x1), some (si x3)] [si x7] (k) (n) h
    refine v_if_ne (pc := 148) 154 dL_rows_148 rfl (fun hc => ?_) (fun hc => ?_)
    · replace hF := (okB_if hF).2 hc
      refine v_iload (pc := 154) (i := 7) dL_rows_154 rfl ?_
      refine v_iload_n (pc := 156) (i := 2) dL_rows_156 rfl rfl ?_
      refine v_iadd (pc := 157) dL_rows_157 ?_
      refine v_istore (pc := 158) (i := 7) [some (sr c0), some (sr c1), some (si c2), some (si c3), none, some (si c5), some (si c6), some (si (a + c2)), some (si x1), some (si x3)] dL_rows_158 (by decide) rfl rfl ?_
      refine v_goto (pc := 160) 66 dL_rows_160 rfl ?_
      exact v_lle [some (sr c0), some (sr c1), some (si c2), some (si c3), none, some (si c5), some (si c6), some (si (a + c2)), none, none] ⟨rfl, rfl, rfl, rfl, rfl, rfl, rfl, trivial⟩ (hL (a + c2) (okB_some hF))
    replace hF := (okB_if hF).1 hc
    refine v_iload (pc := 151) (i := 9) dL_rows_151 rfl ?_
    exact v_iret (pc := 153) dL_rows_153 rfl rfl (hR _ (hE _ (okB_some hF))))
theorem tL_rows {G : gG} (a0 : (Option Nat)) (a1 : (Option Nat)) (a2 : Int32) (h : hp) (Q : hQ) (hF : okB (fL_rows a0 a1 a2 h) (pP gI Q h)) : gS G mL_rows 2 0 0 [sr a0, sr a1, si a2] h Q := by
  delta fL_rows at hF
  refine gS_at [some (sr a0), some (sr a1), some (si a2), none, none, none, none, none, none, none] pl_L rfl (Nat.le_of_ble_eq_true rfl) rfl ?_
  refine v_aload_n (pc := 0) (i := 0) dL_rows_0 rfl rfl ?_
  refine v_iconst (pc := 1) (v := (1 : Int32)) dL_rows_1 rfl ?_
  refine s_iald (pc := 2) dL_rows_2 hF (fun x1 hF => ?_)
  refine v_istore_n (pc := 3) (i := 3) [some (sr a0), some (sr a1), some (si a2), some (si x1), none, none, none, none, none, none] dL_rows_3 rfl (by decide) rfl rfl ?_
  refine v_aload_n (pc := 4) (i := 1) dL_rows_4 rfl rfl ?_
  refine v_bipush (pc := 5) (v := (6 : Int32)) dL_rows_5 rfl ?_
  refine v_iload_n (pc := 7) (i := 3) dL_rows_7 rfl rfl ?_
  refine v_imul (pc := 8) dL_rows_8 ?_
  refine v_iconst (pc := 9) (v := (1 : Int32)) dL_rows_9 rfl ?_
  refine v_iadd (pc := 10) dL_rows_10 ?_
  refine s_iald (pc := 11) dL_rows_11 hF (fun x2 hF => ?_)
  refine v_istore (pc := 12) (i := 4) [some (sr a0), some (sr a1), some (si a2), some (si x1), some (si x2), none, none, none, none, none] dL_rows_12 (by decide) rfl rfl ?_
  refine v_iload (pc := 14) (i := 4) dL_rows_14 rfl ?_
  refine v_if_lt (pc := 16) 31 dL_rows_16 rfl (fun hc => ?_) (fun hc => ?_)
  · replace hF := (okB_if hF).1 hc
    refine v_iconst (pc := 31) (v := (-1 : Int32)) dL_rows_31 rfl ?_
    exact v_iret (pc := 32) dL_rows_32 rfl rfl (okr hF fun q => q)
  replace hF := (okB_if hF).2 hc
  refine v_aload_n (pc := 19) (i := 1) dL_rows_19 rfl rfl ?_
  refine v_bipush (pc := 20) (v := (6 : Int32)) dL_rows_20 rfl ?_
  refine v_iload (pc := 22) (i := 4) dL_rows_22 rfl ?_
  refine v_imul (pc := 24) dL_rows_24 ?_
  refine s_iald (pc := 25) dL_rows_25 hF (fun x3 hF => ?_)
  refine v_bipush (pc := 26) (v := (6 : Int32)) dL_rows_26 rfl ?_
  refine v_icmp_eq (pc := 28) 33 dL_rows_28 rfl (fun hc => ?_) (fun hc => ?_)
  · replace hF := (okB_if hF).1 hc
    refine v_aload_n (pc := 33) (i := 1) dL_rows_33 rfl rfl ?_
    refine v_bipush (pc := 34) (v := (6 : Int32)) dL_rows_34 rfl ?_
    refine v_iload (pc := 36) (i := 4) dL_rows_36 rfl ?_
    refine v_imul (pc := 38) dL_rows_38 ?_
    refine v_iconst (pc := 39) (v := (1 : Int32)) dL_rows_39 rfl ?_
    refine v_iadd (pc := 40) dL_rows_40 ?_
    refine s_iald (pc := 41) dL_rows_41 hF (fun x4 hF => ?_)
    refine v_istore (pc := 42) (i := 5) [some (sr a0), some (sr a1), some (si a2), some (si x1), some (si x2), some (si x4), none, none, none, none] dL_rows_42 (by decide) rfl rfl ?_
    refine v_aload_n (pc := 44) (i := 0) dL_rows_44 rfl rfl ?_
    refine v_aload_n (pc := 45) (i := 1) dL_rows_45 rfl rfl ?_
    refine v_iload (pc := 46) (i := 5) dL_rows_46 rfl ?_
    refine cp_S (pc := 48) gI (as := [sr a0, sr a1, si x4]) (st := []) (N := mL_kids) (k := 0) (n := 0) (k1 := 0) (n1 := 0) dL_rows_48 lkL_71 caL_kids csL_kids rfl (fun Q1 hq => tL_kids a0 a1 x4 h Q1 hq) ⟨by decide, by decide⟩ (Nat.le_of_ble_eq_true rfl) rfl hF (fun x5 hF => ?_)
    show gV G mL_rows 2 Q 51 [some (sr a0), some (sr a1), some (si a2), some (si x1), some (si x2), some (si x4), none, none, none, none] [si x5] (0) (0) h
    refine v_istore (pc := 51) (i := 6) [some (sr a0), some (sr a1), some (si a2), some (si x1), some (si x2), some (si x4), some (si x5), none, none, none] dL_rows_51 (by decide) rfl rfl ?_
    refine v_aload_n (pc := 53) (i := 1) dL_rows_53 rfl rfl ?_
    refine v_bipush (pc := 54) (v := (6 : Int32)) dL_rows_54 rfl ?_
    refine v_iload (pc := 56) (i := 4) dL_rows_56 rfl ?_
    refine v_imul (pc := 58) dL_rows_58 ?_
    refine v_iconst (pc := 59) (v := (2 : Int32)) dL_rows_59 rfl ?_
    refine v_iadd (pc := 60) dL_rows_60 ?_
    refine s_iald (pc := 61) dL_rows_61 hF (fun x6 hF => ?_)
    refine v_iload_n (pc := 62) (i := 2) dL_rows_62 rfl rfl ?_
    refine v_iadd (pc := 63) dL_rows_63 ?_
    refine v_istore (pc := 64) (i := 7) [some (sr a0), some (sr a1), some (si a2), some (si x1), some (si x2), some (si x4), some (si x5), some (si (x6 + a2)), none, none] dL_rows_64 (by decide) rfl rfl ?_
    refine mgR (X := fun q7 => gV G mL_rows 2 Q 163 [none, none, none, none, none, none, none, none, none, none] [] (0) (0) h) hF (fun _ hj8 hr8 hF => v_lle [some (sr a0), some (sr a1), some (si a2), some (si x1), none, some (si x4), some (si x5), some (si (x6 + a2)), none, none] ⟨rfl, rfl, rfl, rfl, rfl, rfl, rfl, trivial⟩ (lL_rows_66 a0 a1 a2 x1 x4 x5 h hj8 (fun _ hp => (hr8 _ hp)) FU (x6 + a2) hF)) (fun q7 hF => ?_)
    refine v_iconst (pc := 163) (v := (-1 : Int32)) dL_rows_163 rfl ?_
    exact v_iret (pc := 164) dL_rows_164 rfl rfl (okr hF fun q => q)
  replace hF := (okB_if hF).2 hc
  refine v_iconst (pc := 31) (v := (-1 : Int32)) dL_rows_31 rfl ?_
  exact v_iret (pc := 32) dL_rows_32 rfl rfl (okr hF fun q => q)
/-! BrailleDeskLaw.seeks -/
theorem lL_seeks_13 {G : gG} {Q : hQ} {P : Int32 → Prop} {k n : Nat} (c0 : (Option Nat)) (c1 : (Option Nat)) (c2 : Int32) (c3 : Int32) (h : hp) (hJ : ∀ q : Int32, P q → gV G mL_seeks 3 Q 76 [some (sr c0), some (sr c1), none, some (si c3), some (si q), none] [] (k) (n) h) : ∀ (fu : Nat) (a : (Int32 × Int32)), okB (itr (fL_seeks_B13 c0 c1 c2 c3 h) fu a) P → gV G mL_seeks 3 Q 13 [some (sr c0), some (sr c1), some (si c2), some (si c3), some (si a.1), some (si a.2)] [] (k) (n) h :=
  lpg (X := fun (a : (Int32 × Int32)) => gV G mL_seeks 3 Q 13 [some (sr c0), some (sr c1), some (si c2), some (si c3), some (si a.1), some (si a.2)] [] (k) (n) h) (fun a P2 hL hE hF => by
    delta fL_seeks_B13 at hF
    refine v_iload (pc := 13) (i := 5) dL_seeks_13 rfl ?_
    refine v_if_lt (pc := 15) 76 dL_seeks_15 rfl (fun hc => ?_) (fun hc => ?_)
    · replace hF := (okB_if hF).1 hc
      exact v_lle [some (sr c0), some (sr c1), none, some (si c3), some (si a.1), none] ⟨rfl, rfl, rfl, rfl, trivial⟩ (hJ a.1 (hE _ (okB_some hF)))
    replace hF := (okB_if hF).2 hc
    refine v_iload (pc := 18) (i := 4) dL_seeks_18 rfl ?_
    refine v_if_ge (pc := 20) 76 dL_seeks_20 rfl (fun hc => ?_) (fun hc => ?_)
    · replace hF := (okB_if hF).1 hc
      exact v_lle [some (sr c0), some (sr c1), none, some (si c3), some (si a.1), none] ⟨rfl, rfl, rfl, rfl, trivial⟩ (hJ a.1 (hE _ (okB_some hF)))
    replace hF := (okB_if hF).2 hc
    refine v_iload_n (pc := 23) (i := 2) dL_seeks_23 rfl rfl ?_
    refine mg (X := fun q1 => gV G mL_seeks 3 Q 62 [some (sr c0), some (sr c1), some (si c2), some (si c3), none, some (si a.2)] [si q1] (k) (n) h) hF (fun _ hj2 hF => ?_) (fun q1 hF => ?_)
    · refine v_if_ge (pc := 24) 45 dL_seeks_24 rfl (fun hc => ?_) (fun hc => ?_)
      · replace hF := (okB_if hF).1 hc
        refine v_aload_n (pc := 45) (i := 1) dL_seeks_45 rfl rfl ?_
        refine v_bipush (pc := 46) (v := (6 : Int32)) dL_seeks_46 rfl ?_
        refine v_iload (pc := 48) (i := 5) dL_seeks_48 rfl ?_
        refine v_imul (pc := 50) dL_seeks_50 ?_
        refine s_iald (pc := 51) dL_seeks_51 hF (fun x3 hF => ?_)
        refine v_iload_n (pc := 52) (i := 2) dL_seeks_52 rfl rfl ?_
        refine v_icmp_ne (pc := 53) 61 dL_seeks_53 rfl (fun hc => ?_) (fun hc => ?_)
        · replace hF := (okB_if hF).2 hc
          refine v_iconst (pc := 61) (v := (-1 : Int32)) dL_seeks_61 rfl ?_
          exact v_lle [some (sr c0), some (sr c1), some (si c2), some (si c3), none, some (si a.2)] ⟨rfl, rfl, rfl, rfl, rfl, trivial⟩ (hj2 (-1 : Int32) (okB_some hF))
        replace hF := (okB_if hF).1 hc
        refine v_iload (pc := 56) (i := 5) dL_seeks_56 rfl ?_
        refine v_goto (pc := 58) 62 dL_seeks_58 rfl ?_
        exact v_lle [some (sr c0), some (sr c1), some (si c2), some (si c3), none, some (si a.2)] ⟨rfl, rfl, rfl, rfl, rfl, trivial⟩ (hj2 a.2 (okB_some hF))
      replace hF := (okB_if hF).2 hc
      refine v_aload_n (pc := 27) (i := 1) dL_seeks_27 rfl rfl ?_
      refine v_iload (pc := 28) (i := 5) dL_seeks_28 rfl ?_
      refine cp_S (pc := 30) gI (as := [sr c1, si a.2]) (st := []) (N := mL_canFocus) (k := k) (n := n) (k1 := 0) (n1 := 0) dL_seeks_30 lkL_74 caL_canFocus csL_canFocus rfl (fun Q1 hq => tL_canFocus c1 a.2 h Q1 hq) ⟨by decide, by decide⟩ (Nat.le_of_ble_eq_true rfl) rfl hF (fun x4 hF => ?_)
      show gV G mL_seeks 3 Q 33 [some (sr c0), some (sr c1), some (si c2), some (si c3), some (si a.1), some (si a.2)] [si x4] (k) (n) h
      refine v_if_eq (pc := 33) 41 dL_seeks_33 rfl (fun hc => ?_) (fun hc => ?_)
      · replace hF := (okB_if hF).1 hc
        refine v_iconst (pc := 41) (v := (-1 : Int32)) dL_seeks_41 rfl ?_
        refine v_goto (pc := 42) 62 dL_seeks_42 rfl ?_
        exact v_lle [some (sr c0), some (sr c1), some (si c2), some (si c3), none, some (si a.2)] ⟨rfl, rfl, rfl, rfl, rfl, trivial⟩ (hj2 (-1 : Int32) (okB_some hF))
      replace hF := (okB_if hF).2 hc
      refine v_iload (pc := 36) (i := 5) dL_seeks_36 rfl ?_
      refine v_goto (pc := 38) 62 dL_seeks_38 rfl ?_
      exact v_lle [some (sr c0), some (sr c1), some (si c2), some (si c3), none, some (si a.2)] ⟨rfl, rfl, rfl, rfl, rfl, trivial⟩ (hj2 a.2 (okB_some hF))
    refine v_istore (pc := 62) (i := 4) [some (sr c0), some (sr c1), some (si c2), some (si c3), some (si q1), some (si a.2)] dL_seeks_62 (by decide) rfl rfl ?_
    refine v_aload_n (pc := 64) (i := 0) dL_seeks_64 rfl rfl ?_
    refine v_aload_n (pc := 65) (i := 1) dL_seeks_65 rfl rfl ?_
    refine v_iload (pc := 66) (i := 5) dL_seeks_66 rfl ?_
    refine cp_S (pc := 68) gI (as := [sr c0, sr c1, si a.2]) (st := []) (N := mL_next) (k := k) (n := n) (k1 := 0) (n1 := 0) dL_seeks_68 lkL_67 caL_next csL_next rfl (fun Q1 hq => tL_next c0 c1 a.2 h Q1 hq) ⟨by decide, by decide⟩ (Nat.le_of_ble_eq_true rfl) rfl hF (fun x5 hF => ?_)
    show gV G mL_seeks 3 Q 71 [some (sr c0), some (sr c1), some (si c2), some (si c3), some (si q1), some (si a.2)] [si x5] (k) (n) h
    refine v_istore (pc := 71) (i := 5) [some (sr c0), some (sr c1), some (si c2), some (si c3), some (si q1), some (si x5)] dL_seeks_71 (by decide) rfl rfl ?_
    refine v_goto (pc := 73) 13 dL_seeks_73 rfl ?_
    exact v_lle [some (sr c0), some (sr c1), some (si c2), some (si c3), some (si q1), some (si x5)] ⟨rfl, rfl, rfl, rfl, rfl, rfl, trivial⟩ (hL (q1, x5) (okB_some hF)))
theorem lL_seeks_79 {G : gG} {Q : hQ} {P : Int32 → Prop} {k n : Nat} (c0 : (Option Nat)) (c1 : (Option Nat)) (c3 : Int32) (h : hp) (hJ : ∀ q : Int32, P q → gV G mL_seeks 3 Q 122 [none, none, none, none, some (si q), none] [] (k) (n) h) : ∀ (fu : Nat) (a : (Int32 × Int32)), okB (itr (fL_seeks_B79 c0 c1 c3 h) fu a) P → gV G mL_seeks 3 Q 79 [some (sr c0), some (sr c1), none, some (si c3), some (si a.1), some (si a.2)] [] (k) (n) h :=
  lpg (X := fun (a : (Int32 × Int32)) => gV G mL_seeks 3 Q 79 [some (sr c0), some (sr c1), none, some (si c3), some (si a.1), some (si a.2)] [] (k) (n) h) (fun a P2 hL hE hF => by
    delta fL_seeks_B79 at hF
    refine v_iload (pc := 79) (i := 5) dL_seeks_79 rfl ?_
    refine v_if_lt (pc := 81) 122 dL_seeks_81 rfl (fun hc => ?_) (fun hc => ?_)
    · replace hF := (okB_if hF).1 hc
      exact v_lle [none, none, none, none, some (si a.1), none] ⟨rfl, trivial⟩ (hJ a.1 (hE _ (okB_some hF)))
    replace hF := (okB_if hF).2 hc
    refine v_iload (pc := 84) (i := 4) dL_seeks_84 rfl ?_
    refine v_if_ge (pc := 86) 122 dL_seeks_86 rfl (fun hc => ?_) (fun hc => ?_)
    · replace hF := (okB_if hF).1 hc
      exact v_lle [none, none, none, none, some (si a.1), none] ⟨rfl, trivial⟩ (hJ a.1 (hE _ (okB_some hF)))
    replace hF := (okB_if hF).2 hc
    refine v_iload_n (pc := 89) (i := 3) dL_seeks_89 rfl rfl ?_
    refine v_if_eq (pc := 90) 122 dL_seeks_90 rfl (fun hc => ?_) (fun hc => ?_)
    · replace hF := (okB_if hF).1 hc
      exact v_lle [none, none, none, none, some (si a.1), none] ⟨rfl, trivial⟩ (hJ a.1 (hE _ (okB_some hF)))
    replace hF := (okB_if hF).2 hc
    refine v_aload_n (pc := 93) (i := 1) dL_seeks_93 rfl rfl ?_
    refine v_iload (pc := 94) (i := 5) dL_seeks_94 rfl ?_
    refine cp_S (pc := 96) gI (as := [sr c1, si a.2]) (st := []) (N := mL_canFocus) (k := k) (n := n) (k1 := 0) (n1 := 0) dL_seeks_96 lkL_74 caL_canFocus csL_canFocus rfl (fun Q1 hq => tL_canFocus c1 a.2 h Q1 hq) ⟨by decide, by decide⟩ (Nat.le_of_ble_eq_true rfl) rfl hF (fun x1 hF => ?_)
    show gV G mL_seeks 3 Q 99 [some (sr c0), some (sr c1), none, some (si c3), some (si a.1), some (si a.2)] [si x1] (k) (n) h
    refine mg (X := fun q2 => gV G mL_seeks 3 Q 108 [some (sr c0), some (sr c1), none, some (si c3), none, some (si a.2)] [si q2] (k) (n) h) hF (fun _ hj3 hF => ?_) (fun q2 hF => ?_)
    · refine v_if_eq (pc := 99) 107 dL_seeks_99 rfl (fun hc => ?_) (fun hc => ?_)
      · replace hF := (okB_if hF).1 hc
        refine v_iconst (pc := 107) (v := (-1 : Int32)) dL_seeks_107 rfl ?_
        exact v_lle [some (sr c0), some (sr c1), none, some (si c3), none, some (si a.2)] ⟨rfl, rfl, rfl, rfl, trivial⟩ (hj3 (-1 : Int32) (okB_some hF))
      replace hF := (okB_if hF).2 hc
      refine v_iload (pc := 102) (i := 5) dL_seeks_102 rfl ?_
      refine v_goto (pc := 104) 108 dL_seeks_104 rfl ?_
      exact v_lle [some (sr c0), some (sr c1), none, some (si c3), none, some (si a.2)] ⟨rfl, rfl, rfl, rfl, trivial⟩ (hj3 a.2 (okB_some hF))
    refine v_istore (pc := 108) (i := 4) [some (sr c0), some (sr c1), none, some (si c3), some (si q2), some (si a.2)] dL_seeks_108 (by decide) rfl rfl ?_
    refine v_aload_n (pc := 110) (i := 0) dL_seeks_110 rfl rfl ?_
    refine v_aload_n (pc := 111) (i := 1) dL_seeks_111 rfl rfl ?_
    refine v_iload (pc := 112) (i := 5) dL_seeks_112 rfl ?_
    refine cp_S (pc := 114) gI (as := [sr c0, sr c1, si a.2]) (st := []) (N := mL_next) (k := k) (n := n) (k1 := 0) (n1 := 0) dL_seeks_114 lkL_67 caL_next csL_next rfl (fun Q1 hq => tL_next c0 c1 a.2 h Q1 hq) ⟨by decide, by decide⟩ (Nat.le_of_ble_eq_true rfl) rfl hF (fun x4 hF => ?_)
    show gV G mL_seeks 3 Q 117 [some (sr c0), some (sr c1), none, some (si c3), some (si q2), some (si a.2)] [si x4] (k) (n) h
    refine v_istore (pc := 117) (i := 5) [some (sr c0), some (sr c1), none, some (si c3), some (si q2), some (si x4)] dL_seeks_117 (by decide) rfl rfl ?_
    refine v_goto (pc := 119) 79 dL_seeks_119 rfl ?_
    exact v_lle [some (sr c0), some (sr c1), none, some (si c3), some (si q2), some (si x4)] ⟨rfl, rfl, rfl, rfl, rfl, trivial⟩ (hL (q2, x4) (okB_some hF)))
theorem tL_seeks {G : gG} (a0 : (Option Nat)) (a1 : (Option Nat)) (a2 : Int32) (a3 : Int32) (h : hp) (Q : hQ) (hF : okB (fL_seeks a0 a1 a2 a3 h) (pP gI Q h)) : gS G mL_seeks 3 0 0 [sr a0, sr a1, si a2, si a3] h Q := by
  delta fL_seeks at hF
  refine gS_at [some (sr a0), some (sr a1), some (si a2), some (si a3), none, none] pl_L rfl (Nat.le_of_ble_eq_true rfl) rfl ?_
  refine v_iconst (pc := 0) (v := (-1 : Int32)) dL_seeks_0 rfl ?_
  refine v_istore (pc := 1) (i := 4) [some (sr a0), some (sr a1), some (si a2), some (si a3), some (si (-1 : Int32)), none] dL_seeks_1 (by decide) rfl rfl ?_
  refine v_aload_n (pc := 3) (i := 0) dL_seeks_3 rfl rfl ?_
  refine v_aload_n (pc := 4) (i := 1) dL_seeks_4 rfl rfl ?_
  refine v_aload_n (pc := 5) (i := 0) dL_seeks_5 rfl rfl ?_
  refine v_iconst (pc := 6) (v := (1 : Int32)) dL_seeks_6 rfl ?_
  refine s_iald (pc := 7) dL_seeks_7 hF (fun x1 hF => ?_)
  refine cp_S (pc := 8) gI (as := [sr a0, sr a1, si x1]) (st := []) (N := mL_next) (k := 0) (n := 0) (k1 := 0) (n1 := 0) dL_seeks_8 lkL_67 caL_next csL_next rfl (fun Q1 hq => tL_next a0 a1 x1 h Q1 hq) ⟨by decide, by decide⟩ (Nat.le_of_ble_eq_true rfl) rfl hF (fun x2 hF => ?_)
  show gV G mL_seeks 3 Q 11 [some (sr a0), some (sr a1), some (si a2), some (si a3), some (si (-1 : Int32)), none] [si x2] (0) (0) h
  refine v_istore (pc := 11) (i := 5) [some (sr a0), some (sr a1), some (si a2), some (si a3), some (si (-1 : Int32)), some (si x2)] dL_seeks_11 (by decide) rfl rfl ?_
  refine mg (X := fun q3 => gV G mL_seeks 3 Q 76 [some (sr a0), some (sr a1), none, some (si a3), some (si q3), none] [] (0) (0) h) hF (fun _ hj6 hF => v_lle [some (sr a0), some (sr a1), some (si a2), some (si a3), some (si (-1 : Int32)), some (si x2)] ⟨rfl, rfl, rfl, rfl, rfl, rfl, trivial⟩ (lL_seeks_13 a0 a1 a2 a3 h hj6 FU ((-1 : Int32), x2) hF)) (fun q3 hF => ?_)
  refine v_iconst (pc := 76) (v := (0 : Int32)) dL_seeks_76 rfl ?_
  refine v_istore (pc := 77) (i := 5) [some (sr a0), some (sr a1), none, some (si a3), some (si q3), some (si (0 : Int32))] dL_seeks_77 (by decide) rfl rfl ?_
  refine mg (X := fun q4 => gV G mL_seeks 3 Q 122 [none, none, none, none, some (si q4), none] [] (0) (0) h) hF (fun _ hj5 hF => v_lle [some (sr a0), some (sr a1), none, some (si a3), some (si q3), some (si (0 : Int32))] ⟨rfl, rfl, rfl, rfl, rfl, trivial⟩ (lL_seeks_79 a0 a1 a3 h hj5 FU (q3, (0 : Int32)) hF)) (fun q4 hF => ?_)
  refine v_iload (pc := 122) (i := 4) dL_seeks_122 rfl ?_
  exact v_iret (pc := 124) dL_seeks_124 rfl rfl (okr hF fun q => q)
