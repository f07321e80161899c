/-! ===== the law's methods over its arrays: their functions and rows ===== -/
theorem dL_points_0 : decode cL_points 0 = .ok (.ldc2_w 48, 3) := by decide +kernel
theorem dL_points_3 : decode cL_points 3 = .ok (.lstore_n 1, 1) := by decide +kernel
theorem dL_points_4 : decode cL_points 4 = .ok (.iload_n 0, 1) := by decide +kernel
theorem dL_points_5 : decode cL_points 5 = .ok (.bipush 10, 2) := by decide +kernel
theorem dL_points_7 : decode cL_points 7 = .ok (.if_icmp .ge 7, 3) := by decide +kernel
theorem dL_points_10 : decode cL_points 10 = .ok (.iconst 0, 1) := by decide +kernel
theorem dL_points_11 : decode cL_points 11 = .ok (.goto 14, 3) := by decide +kernel
theorem dL_points_14 : decode cL_points 14 = .ok (.iload_n 0, 1) := by decide +kernel
theorem dL_points_15 : decode cL_points 15 = .ok (.bipush 20, 2) := by decide +kernel
theorem dL_points_17 : decode cL_points 17 = .ok (.if_icmp .ge 7, 3) := by decide +kernel
theorem dL_points_20 : decode cL_points 20 = .ok (.iconst 1, 1) := by decide +kernel
theorem dL_points_21 : decode cL_points 21 = .ok (.goto 4, 3) := by decide +kernel
theorem dL_points_24 : decode cL_points 24 = .ok (.iconst 2, 1) := by decide +kernel
theorem dL_points_25 : decode cL_points 25 = .ok (.istore_n 3, 1) := by decide +kernel
theorem dL_points_26 : decode cL_points 26 = .ok (.iload_n 0, 1) := by decide +kernel
theorem dL_points_27 : decode cL_points 27 = .ok (.bipush 22, 2) := by decide +kernel
theorem dL_points_29 : decode cL_points 29 = .ok (.if_icmp .ne 8, 3) := by decide +kernel
theorem dL_points_32 : decode cL_points 32 = .ok (.bipush 9, 2) := by decide +kernel
theorem dL_points_34 : decode cL_points 34 = .ok (.goto 21, 3) := by decide +kernel
theorem dL_points_37 : decode cL_points 37 = .ok (.iload_n 0, 1) := by decide +kernel
theorem dL_points_38 : decode cL_points 38 = .ok (.bipush 10, 2) := by decide +kernel
theorem dL_points_40 : decode cL_points 40 = .ok (.iload_n 3, 1) := by decide +kernel
theorem dL_points_41 : decode cL_points 41 = .ok (.imul, 1) := by decide +kernel
theorem dL_points_42 : decode cL_points 42 = .ok (.isub, 1) := by decide +kernel
theorem dL_points_43 : decode cL_points 43 = .ok (.iload_n 0, 1) := by decide +kernel
theorem dL_points_44 : decode cL_points 44 = .ok (.bipush 22, 2) := by decide +kernel
theorem dL_points_46 : decode cL_points 46 = .ok (.if_icmp .le 7, 3) := by decide +kernel
theorem dL_points_49 : decode cL_points 49 = .ok (.iconst 1, 1) := by decide +kernel
theorem dL_points_50 : decode cL_points 50 = .ok (.goto 4, 3) := by decide +kernel
theorem dL_points_53 : decode cL_points 53 = .ok (.iconst 0, 1) := by decide +kernel
theorem dL_points_54 : decode cL_points 54 = .ok (.isub, 1) := by decide +kernel
theorem dL_points_55 : decode cL_points 55 = .ok (.istore 4, 2) := by decide +kernel
theorem dL_points_57 : decode cL_points 57 = .ok (.lload_n 1, 1) := by decide +kernel
theorem dL_points_58 : decode cL_points 58 = .ok (.iconst 5, 1) := by decide +kernel
theorem dL_points_59 : decode cL_points 59 = .ok (.iload 4, 2) := by decide +kernel
theorem dL_points_61 : decode cL_points 61 = .ok (.imul, 1) := by decide +kernel
theorem dL_points_62 : decode cL_points 62 = .ok (.lshr, 1) := by decide +kernel
theorem dL_points_63 : decode cL_points 63 = .ok (.ldc2_w 50, 3) := by decide +kernel
theorem dL_points_66 : decode cL_points 66 = .ok (.land, 1) := by decide +kernel
theorem dL_points_67 : decode cL_points 67 = .ok (.l2i, 1) := by decide +kernel
theorem dL_points_68 : decode cL_points 68 = .ok (.istore 5, 2) := by decide +kernel
theorem dL_points_70 : decode cL_points 70 = .ok (.iload_n 0, 1) := by decide +kernel
theorem dL_points_71 : decode cL_points 71 = .ok (.bipush 22, 2) := by decide +kernel
theorem dL_points_73 : decode cL_points 73 = .ok (.if_icmp .ne 11, 3) := by decide +kernel
theorem dL_points_76 : decode cL_points 76 = .ok (.iload 5, 2) := by decide +kernel
theorem dL_points_78 : decode cL_points 78 = .ok (.bipush 32, 2) := by decide +kernel
theorem dL_points_80 : decode cL_points 80 = .ok (.iadd, 1) := by decide +kernel
theorem dL_points_81 : decode cL_points 81 = .ok (.goto 29, 3) := by decide +kernel
theorem dL_points_84 : decode cL_points 84 = .ok (.iload_n 3, 1) := by decide +kernel
theorem dL_points_85 : decode cL_points 85 = .ok (.ifCond .ne 8, 3) := by decide +kernel
theorem dL_points_88 : decode cL_points 88 = .ok (.iload 5, 2) := by decide +kernel
theorem dL_points_90 : decode cL_points 90 = .ok (.goto 20, 3) := by decide +kernel
theorem dL_points_93 : decode cL_points 93 = .ok (.iload_n 3, 1) := by decide +kernel
theorem dL_points_94 : decode cL_points 94 = .ok (.iconst 1, 1) := by decide +kernel
theorem dL_points_95 : decode cL_points 95 = .ok (.if_icmp .ne 10, 3) := by decide +kernel
theorem dL_points_98 : decode cL_points 98 = .ok (.iload 5, 2) := by decide +kernel
theorem dL_points_100 : decode cL_points 100 = .ok (.iconst 4, 1) := by decide +kernel
theorem dL_points_101 : decode cL_points 101 = .ok (.iadd, 1) := by decide +kernel
theorem dL_points_102 : decode cL_points 102 = .ok (.goto 8, 3) := by decide +kernel
theorem dL_points_105 : decode cL_points 105 = .ok (.iload 5, 2) := by decide +kernel
theorem dL_points_107 : decode cL_points 107 = .ok (.bipush 36, 2) := by decide +kernel
theorem dL_points_109 : decode cL_points 109 = .ok (.iadd, 1) := by decide +kernel
theorem dL_points_110 : decode cL_points 110 = .ok (.ireturn, 1) := by decide +kernel
theorem dL_isLetter_0 : decode cL_isLetter 0 = .ok (.iload_n 0, 1) := by decide +kernel
theorem dL_isLetter_1 : decode cL_isLetter 1 = .ok (.bipush 97, 2) := by decide +kernel
theorem dL_isLetter_3 : decode cL_isLetter 3 = .ok (.if_icmp .lt 9, 3) := by decide +kernel
theorem dL_isLetter_6 : decode cL_isLetter 6 = .ok (.iload_n 0, 1) := by decide +kernel
theorem dL_isLetter_7 : decode cL_isLetter 7 = .ok (.bipush 122, 2) := by decide +kernel
theorem dL_isLetter_9 : decode cL_isLetter 9 = .ok (.if_icmp .le 15, 3) := by decide +kernel
theorem dL_isLetter_12 : decode cL_isLetter 12 = .ok (.iload_n 0, 1) := by decide +kernel
theorem dL_isLetter_13 : decode cL_isLetter 13 = .ok (.bipush 65, 2) := by decide +kernel
theorem dL_isLetter_15 : decode cL_isLetter 15 = .ok (.if_icmp .lt 13, 3) := by decide +kernel
theorem dL_isLetter_18 : decode cL_isLetter 18 = .ok (.iload_n 0, 1) := by decide +kernel
theorem dL_isLetter_19 : decode cL_isLetter 19 = .ok (.bipush 90, 2) := by decide +kernel
theorem dL_isLetter_21 : decode cL_isLetter 21 = .ok (.if_icmp .gt 7, 3) := by decide +kernel
theorem dL_isLetter_24 : decode cL_isLetter 24 = .ok (.iconst 1, 1) := by decide +kernel
theorem dL_isLetter_25 : decode cL_isLetter 25 = .ok (.goto 4, 3) := by decide +kernel
theorem dL_isLetter_28 : decode cL_isLetter 28 = .ok (.iconst 0, 1) := by decide +kernel
theorem dL_isLetter_29 : decode cL_isLetter 29 = .ok (.ireturn, 1) := by decide +kernel
theorem dL_isDigit_0 : decode cL_isDigit 0 = .ok (.iload_n 0, 1) := by decide +kernel
theorem dL_isDigit_1 : decode cL_isDigit 1 = .ok (.bipush 48, 2) := by decide +kernel
theorem dL_isDigit_3 : decode cL_isDigit 3 = .ok (.if_icmp .lt 13, 3) := by decide +kernel
theorem dL_isDigit_6 : decode cL_isDigit 6 = .ok (.iload_n 0, 1) := by decide +kernel
theorem dL_isDigit_7 : decode cL_isDigit 7 = .ok (.bipush 57, 2) := by decide +kernel
theorem dL_isDigit_9 : decode cL_isDigit 9 = .ok (.if_icmp .gt 7, 3) := by decide +kernel
theorem dL_isDigit_12 : decode cL_isDigit 12 = .ok (.iconst 1, 1) := by decide +kernel
theorem dL_isDigit_13 : decode cL_isDigit 13 = .ok (.goto 4, 3) := by decide +kernel
theorem dL_isDigit_16 : decode cL_isDigit 16 = .ok (.iconst 0, 1) := by decide +kernel
theorem dL_isDigit_17 : decode cL_isDigit 17 = .ok (.ireturn, 1) := by decide +kernel
abbrev mL_points : gM := (yL_points, cL_points, 6, (Option.some FieldType.int), [])
theorem caL_points : cal mL_points 1 := ⟨xw 880 (by decide +kernel) rfl, xw 28 (by decide +kernel) rfl, by decide, by decide +kernel⟩
theorem csL_points : Cond.static yL_points ∈ XW := xw 879 (by decide +kernel) rfl
abbrev mL_isLetter : gM := (yL_isLetter, cL_isLetter, 1, (Option.some FieldType.boolean), [])
theorem caL_isLetter : cal mL_isLetter 1 := ⟨xw 901 (by decide +kernel) rfl, xw 28 (by decide +kernel) rfl, by decide, by decide +kernel⟩
theorem csL_isLetter : Cond.static yL_isLetter ∈ XW := xw 900 (by decide +kernel) rfl
abbrev mL_isDigit : gM := (yL_isDigit, cL_isDigit, 1, (Option.some FieldType.boolean), [])
theorem caL_isDigit : cal mL_isDigit 1 := ⟨xw 904 (by decide +kernel) rfl, xw 28 (by decide +kernel) rfl, by decide, by decide +kernel⟩
theorem csL_isDigit : Cond.static yL_isDigit ∈ XW := xw 903 (by decide +kernel) rfl
theorem clL_48 : Cond.constantLong RL 48 (926471004398689 : Int64) ∈ XW := xw 881 (by decide +kernel) rfl
theorem clL_50 : Cond.constantLong RL 50 (31 : Int64) ∈ XW := xw 882 (by decide +kernel) rfl
/-! BrailleDeskLaw.points -/
theorem tL_points {G : gG} (a0 : Int32) (h : hp) (Q : hQ) (hF : okB (fL_points a0) (pP gI Q h)) : gS G mL_points 0 0 0 [si a0] h Q := by
  delta fL_points at hF
  refine gS_at [some (si a0), none, none, none, none, none] pl_L rfl (Nat.le_of_ble_eq_true rfl) rfl ?_
  refine v_ldc2 (pc := 0) (v := (926471004398689 : Int64)) dL_points_0 clL_48 ?_
  refine v_lstore_n (pc := 3) (i := 1) [some (si a0), some (sl (926471004398689 : Int64)), none, none, none, none] dL_points_3 rfl (by decide) rfl rfl ?_
  refine v_iload_n (pc := 4) (i := 0) dL_points_4 rfl rfl ?_
  refine v_bipush (pc := 5) (v := (10 : Int32)) dL_points_5 rfl ?_
  refine mg (X := fun q1 => gV G mL_points 0 Q 25 [some (si a0), some (sl (926471004398689 : Int64)), none, none, none, none] [si q1] (0) (0) h) hF (fun _ hj2 hF => ?_) (fun q1 hF => ?_)
  · refine v_icmp_ge (pc := 7) 14 dL_points_7 rfl (fun hc => ?_) (fun hc => ?_)
    · replace hF := (okB_if hF).1 hc
      refine v_iload_n (pc := 14) (i := 0) dL_points_14 rfl rfl ?_
      refine v_bipush (pc := 15) (v := (20 : Int32)) dL_points_15 rfl ?_
      refine v_icmp_ge (pc := 17) 24 dL_points_17 rfl (fun hc => ?_) (fun hc => ?_)
      · replace hF := (okB_if hF).1 hc
        refine v_iconst (pc := 24) (v := (2 : Int32)) dL_points_24 rfl ?_
        exact v_lle [some (si a0), some (sl (926471004398689 : Int64)), none, none, none, none] ⟨rfl, rfl, trivial⟩ (hj2 (2 : Int32) (okB_some hF))
      replace hF := (okB_if hF).2 hc
      refine v_iconst (pc := 20) (v := (1 : Int32)) dL_points_20 rfl ?_
      refine v_goto (pc := 21) 25 dL_points_21 rfl ?_
      exact v_lle [some (si a0), some (sl (926471004398689 : Int64)), none, none, none, none] ⟨rfl, rfl, trivial⟩ (hj2 (1 : Int32) (okB_some hF))
    replace hF := (okB_if hF).2 hc
    refine v_iconst (pc := 10) (v := (0 : Int32)) dL_points_10 rfl ?_
    refine v_goto (pc := 11) 25 dL_points_11 rfl ?_
    exact v_lle [some (si a0), some (sl (926471004398689 : Int64)), none, none, none, none] ⟨rfl, rfl, trivial⟩ (hj2 (0 : Int32) (okB_some hF))
  refine v_istore_n (pc := 25) (i := 3) [some (si a0), some (sl (926471004398689 : Int64)), none, some (si q1), none, none] dL_points_25 rfl (by decide) rfl rfl ?_
  refine v_iload_n (pc := 26) (i := 0) dL_points_26 rfl rfl ?_
  refine v_bipush (pc := 27) (v := (22 : Int32)) dL_points_27 rfl ?_
  refine mg (X := fun q3 => gV G mL_points 0 Q 55 [some (si a0), some (sl (926471004398689 : Int64)), none, some (si q1), none, none] [si q3] (0) (0) h) hF (fun _ hj4 hF => ?_) (fun q3 hF => ?_)
  · refine v_icmp_ne (pc := 29) 37 dL_points_29 rfl (fun hc => ?_) (fun hc => ?_)
    · replace hF := (okB_if hF).2 hc
      refine v_iload_n (pc := 37) (i := 0) dL_points_37 rfl rfl ?_
      refine v_bipush (pc := 38) (v := (10 : Int32)) dL_points_38 rfl ?_
      refine v_iload_n (pc := 40) (i := 3) dL_points_40 rfl rfl ?_
      refine v_imul (pc := 41) dL_points_41 ?_
      refine v_isub (pc := 42) dL_points_42 ?_
      refine v_iload_n (pc := 43) (i := 0) dL_points_43 rfl rfl ?_
      refine v_bipush (pc := 44) (v := (22 : Int32)) dL_points_44 rfl ?_
      refine v_icmp_le (pc := 46) 53 dL_points_46 rfl (fun hc => ?_) (fun hc => ?_)
      · replace hF := (okB_if hF).1 hc
        refine v_iconst (pc := 53) (v := (0 : Int32)) dL_points_53 rfl ?_
        refine v_isub (pc := 54) dL_points_54 ?_
        exact v_lle [some (si a0), some (sl (926471004398689 : Int64)), none, some (si q1), none, none] ⟨rfl, rfl, rfl, trivial⟩ (hj4 ((a0 - ((10 : Int32) * q1)) - (0 : Int32)) (okB_some hF))
      replace hF := (okB_if hF).2 hc
      refine v_iconst (pc := 49) (v := (1 : Int32)) dL_points_49 rfl ?_
      refine v_goto (pc := 50) 54 dL_points_50 rfl ?_
      refine v_isub (pc := 54) dL_points_54 ?_
      exact v_lle [some (si a0), some (sl (926471004398689 : Int64)), none, some (si q1), none, none] ⟨rfl, rfl, rfl, trivial⟩ (hj4 ((a0 - ((10 : Int32) * q1)) - (1 : Int32)) (okB_some hF))
    replace hF := (okB_if hF).1 hc
    refine v_bipush (pc := 32) (v := (9 : Int32)) dL_points_32 rfl ?_
    refine v_goto (pc := 34) 55 dL_points_34 rfl ?_
    exact v_lle [some (si a0), some (sl (926471004398689 : Int64)), none, some (si q1), none, none] ⟨rfl, rfl, rfl, trivial⟩ (hj4 (9 : Int32) (okB_some hF))
  refine v_istore (pc := 55) (i := 4) [some (si a0), some (sl (926471004398689 : Int64)), none, some (si q1), some (si q3), none] dL_points_55 (by decide) rfl rfl ?_
  refine v_lload_n (pc := 57) (i := 1) dL_points_57 rfl rfl ?_
  refine v_iconst (pc := 58) (v := (5 : Int32)) dL_points_58 rfl ?_
  refine v_iload (pc := 59) (i := 4) dL_points_59 rfl ?_
  refine v_imul (pc := 61) dL_points_61 ?_
  refine v_lshr (pc := 62) dL_points_62 ?_
  refine v_ldc2 (pc := 63) (v := (31 : Int64)) dL_points_63 clL_50 ?_
  refine v_land (pc := 66) dL_points_66 ?_
  refine v_l2i (pc := 67) dL_points_67 ?_
  refine v_istore (pc := 68) (i := 5) [some (si a0), some (sl (926471004398689 : Int64)), none, some (si q1), some (si q3), some (si ((((926471004398689 : Int64) >>> (((5 : Int32) * q3).toInt64 &&& 63)) &&& (31 : Int64)).toInt32))] dL_points_68 (by decide) rfl rfl ?_
  refine v_iload_n (pc := 70) (i := 0) dL_points_70 rfl rfl ?_
  refine v_bipush (pc := 71) (v := (22 : Int32)) dL_points_71 rfl ?_
  refine v_icmp_ne (pc := 73) 84 dL_points_73 rfl (fun hc => ?_) (fun hc => ?_)
  · replace hF := (okB_if hF).2 hc
    refine v_iload_n (pc := 84) (i := 3) dL_points_84 rfl rfl ?_
    refine v_if_ne (pc := 85) 93 dL_points_85 rfl (fun hc => ?_) (fun hc => ?_)
    · replace hF := (okB_if hF).2 hc
      refine v_iload_n (pc := 93) (i := 3) dL_points_93 rfl rfl ?_
      refine v_iconst (pc := 94) (v := (1 : Int32)) dL_points_94 rfl ?_
      refine v_icmp_ne (pc := 95) 105 dL_points_95 rfl (fun hc => ?_) (fun hc => ?_)
      · replace hF := (okB_if hF).2 hc
        refine v_iload (pc := 105) (i := 5) dL_points_105 rfl ?_
        refine v_bipush (pc := 107) (v := (36 : Int32)) dL_points_107 rfl ?_
        refine v_iadd (pc := 109) dL_points_109 ?_
        exact v_iret (pc := 110) dL_points_110 rfl rfl (okr hF fun q => q)
      replace hF := (okB_if hF).1 hc
      refine v_iload (pc := 98) (i := 5) dL_points_98 rfl ?_
      refine v_iconst (pc := 100) (v := (4 : Int32)) dL_points_100 rfl ?_
      refine v_iadd (pc := 101) dL_points_101 ?_
      refine v_goto (pc := 102) 110 dL_points_102 rfl ?_
      exact v_iret (pc := 110) dL_points_110 rfl rfl (okr hF fun q => q)
    replace hF := (okB_if hF).1 hc
    refine v_iload (pc := 88) (i := 5) dL_points_88 rfl ?_
    refine v_goto (pc := 90) 110 dL_points_90 rfl ?_
    exact v_iret (pc := 110) dL_points_110 rfl rfl (okr hF fun q => q)
  replace hF := (okB_if hF).1 hc
  refine v_iload (pc := 76) (i := 5) dL_points_76 rfl ?_
  refine v_bipush (pc := 78) (v := (32 : Int32)) dL_points_78 rfl ?_
  refine v_iadd (pc := 80) dL_points_80 ?_
  refine v_goto (pc := 81) 110 dL_points_81 rfl ?_
  exact v_iret (pc := 110) dL_points_110 rfl rfl (okr hF fun q => q)
/-! BrailleDeskLaw.isLetter -/
theorem tL_isLetter {G : gG} (a0 : Int32) (h : hp) (Q : hQ) (hF : okB (fL_isLetter a0) (pP gI Q h)) : gS G mL_isLetter 0 0 0 [si a0] h Q := by
  delta fL_isLetter at hF
  refine gS_at [some (si a0)] pl_L rfl (Nat.le_of_ble_eq_true rfl) rfl ?_
  refine v_iload_n (pc := 0) (i := 0) dL_isLetter_0 rfl rfl ?_
  refine v_bipush (pc := 1) (v := (97 : Int32)) dL_isLetter_1 rfl ?_
  refine v_icmp_lt (pc := 3) 12 dL_isLetter_3 rfl (fun hc => ?_) (fun hc => ?_)
  · replace hF := (okB_if hF).1 hc
    refine v_iload_n (pc := 12) (i := 0) dL_isLetter_12 rfl rfl ?_
    refine v_bipush (pc := 13) (v := (65 : Int32)) dL_isLetter_13 rfl ?_
    refine v_icmp_lt (pc := 15) 28 dL_isLetter_15 rfl (fun hc => ?_) (fun hc => ?_)
    · replace hF := (okB_if hF).1 hc
      refine v_iconst (pc := 28) (v := (0 : Int32)) dL_isLetter_28 rfl ?_
      exact v_iret (pc := 29) dL_isLetter_29 rfl rfl (okr hF fun q => q)
    replace hF := (okB_if hF).2 hc
    refine v_iload_n (pc := 18) (i := 0) dL_isLetter_18 rfl rfl ?_
    refine v_bipush (pc := 19) (v := (90 : Int32)) dL_isLetter_19 rfl ?_
    refine v_icmp_gt (pc := 21) 28 dL_isLetter_21 rfl (fun hc => ?_) (fun hc => ?_)
    · replace hF := (okB_if hF).1 hc
      refine v_iconst (pc := 28) (v := (0 : Int32)) dL_isLetter_28 rfl ?_
      exact v_iret (pc := 29) dL_isLetter_29 rfl rfl (okr hF fun q => q)
    replace hF := (okB_if hF).2 hc
    refine v_iconst (pc := 24) (v := (1 : Int32)) dL_isLetter_24 rfl ?_
    refine v_goto (pc := 25) 29 dL_isLetter_25 rfl ?_
    exact v_iret (pc := 29) dL_isLetter_29 rfl rfl (okr hF fun q => q)
  replace hF := (okB_if hF).2 hc
  refine v_iload_n (pc := 6) (i := 0) dL_isLetter_6 rfl rfl ?_
  refine v_bipush (pc := 7) (v := (122 : Int32)) dL_isLetter_7 rfl ?_
  refine v_icmp_le (pc := 9) 24 dL_isLetter_9 rfl (fun hc => ?_) (fun hc => ?_)
  · replace hF := (okB_if hF).1 hc
    refine v_iconst (pc := 24) (v := (1 : Int32)) dL_isLetter_24 rfl ?_
    refine v_goto (pc := 25) 29 dL_isLetter_25 rfl ?_
    exact v_iret (pc := 29) dL_isLetter_29 rfl rfl (okr hF fun q => q)
  replace hF := (okB_if hF).2 hc
  refine v_iload_n (pc := 12) (i := 0) dL_isLetter_12 rfl rfl ?_
  refine v_bipush (pc := 13) (v := (65 : Int32)) dL_isLetter_13 rfl ?_
  refine v_icmp_lt (pc := 15) 28 dL_isLetter_15 rfl (fun hc => ?_) (fun hc => ?_)
  · replace hF := (okB_if hF).1 hc
    refine v_iconst (pc := 28) (v := (0 : Int32)) dL_isLetter_28 rfl ?_
    exact v_iret (pc := 29) dL_isLetter_29 rfl rfl (okr hF fun q => q)
  replace hF := (okB_if hF).2 hc
  refine v_iload_n (pc := 18) (i := 0) dL_isLetter_18 rfl rfl ?_
  refine v_bipush (pc := 19) (v := (90 : Int32)) dL_isLetter_19 rfl ?_
  refine v_icmp_gt (pc := 21) 28 dL_isLetter_21 rfl (fun hc => ?_) (fun hc => ?_)
  · replace hF := (okB_if hF).1 hc
    refine v_iconst (pc := 28) (v := (0 : Int32)) dL_isLetter_28 rfl ?_
    exact v_iret (pc := 29) dL_isLetter_29 rfl rfl (okr hF fun q => q)
  replace hF := (okB_if hF).2 hc
  refine v_iconst (pc := 24) (v := (1 : Int32)) dL_isLetter_24 rfl ?_
  refine v_goto (pc := 25) 29 dL_isLetter_25 rfl ?_
  exact v_iret (pc := 29) dL_isLetter_29 rfl rfl (okr hF fun q => q)
/-! BrailleDeskLaw.isDigit -/
theorem tL_isDigit {G : gG} (a0 : Int32) (h : hp) (Q : hQ) (hF : okB (fL_isDigit a0) (pP gI Q h)) : gS G mL_isDigit 0 0 0 [si a0] h Q := by
  delta fL_isDigit at hF
  refine gS_at [some (si a0)] pl_L rfl (Nat.le_of_ble_eq_true rfl) rfl ?_
  refine v_iload_n (pc := 0) (i := 0) dL_isDigit_0 rfl rfl ?_
  refine v_bipush (pc := 1) (v := (48 : Int32)) dL_isDigit_1 rfl ?_
  refine v_icmp_lt (pc := 3) 16 dL_isDigit_3 rfl (fun hc => ?_) (fun hc => ?_)
  · replace hF := (okB_if hF).1 hc
    refine v_iconst (pc := 16) (v := (0 : Int32)) dL_isDigit_16 rfl ?_
    exact v_iret (pc := 17) dL_isDigit_17 rfl rfl (okr hF fun q => q)
  replace hF := (okB_if hF).2 hc
  refine v_iload_n (pc := 6) (i := 0) dL_isDigit_6 rfl rfl ?_
  refine v_bipush (pc := 7) (v := (57 : Int32)) dL_isDigit_7 rfl ?_
  refine v_icmp_gt (pc := 9) 16 dL_isDigit_9 rfl (fun hc => ?_) (fun hc => ?_)
  · replace hF := (okB_if hF).1 hc
    refine v_iconst (pc := 16) (v := (0 : Int32)) dL_isDigit_16 rfl ?_
    exact v_iret (pc := 17) dL_isDigit_17 rfl rfl (okr hF fun q => q)
  replace hF := (okB_if hF).2 hc
  refine v_iconst (pc := 12) (v := (1 : Int32)) dL_isDigit_12 rfl ?_
  refine v_goto (pc := 13) 17 dL_isDigit_13 rfl ?_
  exact v_iret (pc := 17) dL_isDigit_17 rfl rfl (okr hF fun q => q)
