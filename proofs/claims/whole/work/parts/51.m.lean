/-! ===== methods: their functions and rows ===== -/
theorem dX11_type_0 : decode cX11_type 0 = .ok (.aload_n 0, 1) := by decide +kernel
theorem dX11_type_1 : decode cX11_type 1 = .ok (.getfield 35, 3) := by decide +kernel
theorem dX11_type_4 : decode cX11_type 4 = .ok (.aload_n 0, 1) := by decide +kernel
theorem dX11_type_5 : decode cX11_type 5 = .ok (.getfield 128, 3) := by decide +kernel
theorem dX11_type_8 : decode cX11_type 8 = .ok (.iaload, 1) := by decide +kernel
theorem dX11_type_9 : decode cX11_type 9 = .ok (.bipush 12, 2) := by decide +kernel
theorem dX11_type_11 : decode cX11_type 11 = .ok (.if_icmp .ne 23, 3) := by decide +kernel
theorem dX11_type_14 : decode cX11_type 14 = .ok (.aload_n 0, 1) := by decide +kernel
theorem dX11_type_15 : decode cX11_type 15 = .ok (.iconst 0, 1) := by decide +kernel
theorem dX11_type_16 : decode cX11_type 16 = .ok (.iconst 0, 1) := by decide +kernel
theorem dX11_type_17 : decode cX11_type 17 = .ok (.iconst 0, 1) := by decide +kernel
theorem dX11_type_18 : decode cX11_type 18 = .ok (.bipush 102, 2) := by decide +kernel
theorem dX11_type_20 : decode cX11_type 20 = .ok (.bipush 117, 2) := by decide +kernel
theorem dX11_type_22 : decode cX11_type 22 = .ok (.bipush 108, 2) := by decide +kernel
theorem dX11_type_24 : decode cX11_type 24 = .ok (.bipush 108, 2) := by decide +kernel
theorem dX11_type_26 : decode cX11_type 26 = .ok (.invokestatic 133, 3) := by decide +kernel
theorem dX11_type_29 : decode cX11_type 29 = .ok (.invokevirtual 322, 3) := by decide +kernel
theorem dX11_type_32 : decode cX11_type 32 = .ok (.iconst 0, 1) := by decide +kernel
theorem dX11_type_33 : decode cX11_type 33 = .ok (.ireturn, 1) := by decide +kernel
theorem dX11_type_34 : decode cX11_type 34 = .ok (.aload_n 0, 1) := by decide +kernel
theorem dX11_type_35 : decode cX11_type 35 = .ok (.getfield 32, 3) := by decide +kernel
theorem dX11_type_38 : decode cX11_type 38 = .ok (.bipush 12, 2) := by decide +kernel
theorem dX11_type_40 : decode cX11_type 40 = .ok (.aload_n 0, 1) := by decide +kernel
theorem dX11_type_41 : decode cX11_type 41 = .ok (.getfield 128, 3) := by decide +kernel
theorem dX11_type_44 : decode cX11_type 44 = .ok (.imul, 1) := by decide +kernel
theorem dX11_type_45 : decode cX11_type 45 = .ok (.aload_n 0, 1) := by decide +kernel
theorem dX11_type_46 : decode cX11_type 46 = .ok (.getfield 35, 3) := by decide +kernel
theorem dX11_type_49 : decode cX11_type 49 = .ok (.aload_n 0, 1) := by decide +kernel
theorem dX11_type_50 : decode cX11_type 50 = .ok (.getfield 128, 3) := by decide +kernel
theorem dX11_type_53 : decode cX11_type 53 = .ok (.iaload, 1) := by decide +kernel
theorem dX11_type_54 : decode cX11_type 54 = .ok (.iadd, 1) := by decide +kernel
theorem dX11_type_55 : decode cX11_type 55 = .ok (.iload_n 1, 1) := by decide +kernel
theorem dX11_type_56 : decode cX11_type 56 = .ok (.iastore, 1) := by decide +kernel
theorem dX11_type_57 : decode cX11_type 57 = .ok (.aload_n 0, 1) := by decide +kernel
theorem dX11_type_58 : decode cX11_type 58 = .ok (.getfield 35, 3) := by decide +kernel
theorem dX11_type_61 : decode cX11_type 61 = .ok (.aload_n 0, 1) := by decide +kernel
theorem dX11_type_62 : decode cX11_type 62 = .ok (.getfield 128, 3) := by decide +kernel
theorem dX11_type_65 : decode cX11_type 65 = .ok (.dup2, 1) := by decide +kernel
theorem dX11_type_66 : decode cX11_type 66 = .ok (.iaload, 1) := by decide +kernel
theorem dX11_type_67 : decode cX11_type 67 = .ok (.iconst 1, 1) := by decide +kernel
theorem dX11_type_68 : decode cX11_type 68 = .ok (.iadd, 1) := by decide +kernel
theorem dX11_type_69 : decode cX11_type 69 = .ok (.iastore, 1) := by decide +kernel
theorem dX11_type_70 : decode cX11_type 70 = .ok (.aload_n 0, 1) := by decide +kernel
theorem dX11_type_71 : decode cX11_type 71 = .ok (.iload_n 1, 1) := by decide +kernel
theorem dX11_type_72 : decode cX11_type 72 = .ok (.invokevirtual 370, 3) := by decide +kernel
theorem dX11_type_75 : decode cX11_type 75 = .ok (.iconst 1, 1) := by decide +kernel
theorem dX11_type_76 : decode cX11_type 76 = .ok (.ireturn, 1) := by decide +kernel
theorem dX11_letterOf_0 : decode cX11_letterOf 0 = .ok (.iconst (-1), 1) := by decide +kernel
theorem dX11_letterOf_1 : decode cX11_letterOf 1 = .ok (.istore_n 2, 1) := by decide +kernel
theorem dX11_letterOf_2 : decode cX11_letterOf 2 = .ok (.iconst 0, 1) := by decide +kernel
theorem dX11_letterOf_3 : decode cX11_letterOf 3 = .ok (.istore_n 3, 1) := by decide +kernel
theorem dX11_letterOf_4 : decode cX11_letterOf 4 = .ok (.iload_n 3, 1) := by decide +kernel
theorem dX11_letterOf_5 : decode cX11_letterOf 5 = .ok (.bipush 26, 2) := by decide +kernel
theorem dX11_letterOf_7 : decode cX11_letterOf 7 = .ok (.if_icmp .ge 24, 3) := by decide +kernel
theorem dX11_letterOf_10 : decode cX11_letterOf 10 = .ok (.aload_n 0, 1) := by decide +kernel
theorem dX11_letterOf_11 : decode cX11_letterOf 11 = .ok (.iload_n 3, 1) := by decide +kernel
theorem dX11_letterOf_12 : decode cX11_letterOf 12 = .ok (.invokevirtual 248, 3) := by decide +kernel
theorem dX11_letterOf_15 : decode cX11_letterOf 15 = .ok (.iload_n 1, 1) := by decide +kernel
theorem dX11_letterOf_16 : decode cX11_letterOf 16 = .ok (.if_icmp .ne 7, 3) := by decide +kernel
theorem dX11_letterOf_19 : decode cX11_letterOf 19 = .ok (.iload_n 3, 1) := by decide +kernel
theorem dX11_letterOf_20 : decode cX11_letterOf 20 = .ok (.goto 4, 3) := by decide +kernel
theorem dX11_letterOf_23 : decode cX11_letterOf 23 = .ok (.iload_n 2, 1) := by decide +kernel
theorem dX11_letterOf_24 : decode cX11_letterOf 24 = .ok (.istore_n 2, 1) := by decide +kernel
theorem dX11_letterOf_25 : decode cX11_letterOf 25 = .ok (.iinc 3 1, 3) := by decide +kernel
theorem dX11_letterOf_28 : decode cX11_letterOf 28 = .ok (.goto (-24), 3) := by decide +kernel
theorem dX11_letterOf_31 : decode cX11_letterOf 31 = .ok (.iload_n 2, 1) := by decide +kernel
theorem dX11_letterOf_32 : decode cX11_letterOf 32 = .ok (.ireturn, 1) := by decide +kernel
theorem dX11_typeLetter_0 : decode cX11_typeLetter 0 = .ok (.aload_n 0, 1) := by decide +kernel
theorem dX11_typeLetter_1 : decode cX11_typeLetter 1 = .ok (.getfield 349, 3) := by decide +kernel
theorem dX11_typeLetter_4 : decode cX11_typeLetter 4 = .ok (.ifCond .eq 39, 3) := by decide +kernel
theorem dX11_typeLetter_7 : decode cX11_typeLetter 7 = .ok (.aload_n 0, 1) := by decide +kernel
theorem dX11_typeLetter_8 : decode cX11_typeLetter 8 = .ok (.getfield 346, 3) := by decide +kernel
theorem dX11_typeLetter_11 : decode cX11_typeLetter 11 = .ok (.ifCond .ne 32, 3) := by decide +kernel
theorem dX11_typeLetter_14 : decode cX11_typeLetter 14 = .ok (.iload_n 1, 1) := by decide +kernel
theorem dX11_typeLetter_15 : decode cX11_typeLetter 15 = .ok (.bipush 10, 2) := by decide +kernel
theorem dX11_typeLetter_17 : decode cX11_typeLetter 17 = .ok (.if_icmp .ge 26, 3) := by decide +kernel
theorem dX11_typeLetter_20 : decode cX11_typeLetter 20 = .ok (.aload_n 0, 1) := by decide +kernel
theorem dX11_typeLetter_21 : decode cX11_typeLetter 21 = .ok (.iload_n 1, 1) := by decide +kernel
theorem dX11_typeLetter_22 : decode cX11_typeLetter 22 = .ok (.bipush 9, 2) := by decide +kernel
theorem dX11_typeLetter_24 : decode cX11_typeLetter 24 = .ok (.if_icmp .ne 8, 3) := by decide +kernel
theorem dX11_typeLetter_27 : decode cX11_typeLetter 27 = .ok (.bipush 48, 2) := by decide +kernel
theorem dX11_typeLetter_29 : decode cX11_typeLetter 29 = .ok (.goto 7, 3) := by decide +kernel
theorem dX11_typeLetter_32 : decode cX11_typeLetter 32 = .ok (.bipush 49, 2) := by decide +kernel
theorem dX11_typeLetter_34 : decode cX11_typeLetter 34 = .ok (.iload_n 1, 1) := by decide +kernel
theorem dX11_typeLetter_35 : decode cX11_typeLetter 35 = .ok (.iadd, 1) := by decide +kernel
theorem dX11_typeLetter_36 : decode cX11_typeLetter 36 = .ok (.invokevirtual 373, 3) := by decide +kernel
theorem dX11_typeLetter_39 : decode cX11_typeLetter 39 = .ok (.istore_n 2, 1) := by decide +kernel
theorem dX11_typeLetter_40 : decode cX11_typeLetter 40 = .ok (.goto 36, 3) := by decide +kernel
theorem dX11_typeLetter_43 : decode cX11_typeLetter 43 = .ok (.aload_n 0, 1) := by decide +kernel
theorem dX11_typeLetter_44 : decode cX11_typeLetter 44 = .ok (.aload_n 0, 1) := by decide +kernel
theorem dX11_typeLetter_45 : decode cX11_typeLetter 45 = .ok (.getfield 346, 3) := by decide +kernel
theorem dX11_typeLetter_48 : decode cX11_typeLetter 48 = .ok (.ifCond .eq 8, 3) := by decide +kernel
theorem dX11_typeLetter_51 : decode cX11_typeLetter 51 = .ok (.bipush 65, 2) := by decide +kernel
theorem dX11_typeLetter_53 : decode cX11_typeLetter 53 = .ok (.goto 5, 3) := by decide +kernel
theorem dX11_typeLetter_56 : decode cX11_typeLetter 56 = .ok (.bipush 97, 2) := by decide +kernel
theorem dX11_typeLetter_58 : decode cX11_typeLetter 58 = .ok (.iload_n 1, 1) := by decide +kernel
theorem dX11_typeLetter_59 : decode cX11_typeLetter 59 = .ok (.iadd, 1) := by decide +kernel
theorem dX11_typeLetter_60 : decode cX11_typeLetter 60 = .ok (.invokevirtual 373, 3) := by decide +kernel
theorem dX11_typeLetter_63 : decode cX11_typeLetter 63 = .ok (.ifCond .eq 13, 3) := by decide +kernel
theorem dX11_typeLetter_66 : decode cX11_typeLetter 66 = .ok (.aload_n 0, 1) := by decide +kernel
theorem dX11_typeLetter_67 : decode cX11_typeLetter 67 = .ok (.iconst 0, 1) := by decide +kernel
theorem dX11_typeLetter_68 : decode cX11_typeLetter 68 = .ok (.putfield 346, 3) := by decide +kernel
theorem dX11_typeLetter_71 : decode cX11_typeLetter 71 = .ok (.aload_n 0, 1) := by decide +kernel
theorem dX11_typeLetter_72 : decode cX11_typeLetter 72 = .ok (.iconst 0, 1) := by decide +kernel
theorem dX11_typeLetter_73 : decode cX11_typeLetter 73 = .ok (.putfield 349, 3) := by decide +kernel
theorem dX11_typeLetter_76 : decode cX11_typeLetter 76 = .ok (.return_, 1) := by decide +kernel
theorem dX11_takeLast_0 : decode cX11_takeLast 0 = .ok (.aload_n 0, 1) := by decide +kernel
theorem dX11_takeLast_1 : decode cX11_takeLast 1 = .ok (.getfield 35, 3) := by decide +kernel
theorem dX11_takeLast_4 : decode cX11_takeLast 4 = .ok (.aload_n 0, 1) := by decide +kernel
theorem dX11_takeLast_5 : decode cX11_takeLast 5 = .ok (.getfield 128, 3) := by decide +kernel
theorem dX11_takeLast_8 : decode cX11_takeLast 8 = .ok (.iaload, 1) := by decide +kernel
theorem dX11_takeLast_9 : decode cX11_takeLast 9 = .ok (.ifCond .ne 11, 3) := by decide +kernel
theorem dX11_takeLast_12 : decode cX11_takeLast 12 = .ok (.aload_n 0, 1) := by decide +kernel
theorem dX11_takeLast_13 : decode cX11_takeLast 13 = .ok (.invokestatic 340, 3) := by decide +kernel
theorem dX11_takeLast_16 : decode cX11_takeLast 16 = .ok (.invokevirtual 322, 3) := by decide +kernel
theorem dX11_takeLast_19 : decode cX11_takeLast 19 = .ok (.return_, 1) := by decide +kernel
theorem dX11_takeLast_20 : decode cX11_takeLast 20 = .ok (.aload_n 0, 1) := by decide +kernel
theorem dX11_takeLast_21 : decode cX11_takeLast 21 = .ok (.getfield 35, 3) := by decide +kernel
theorem dX11_takeLast_24 : decode cX11_takeLast 24 = .ok (.aload_n 0, 1) := by decide +kernel
theorem dX11_takeLast_25 : decode cX11_takeLast 25 = .ok (.getfield 128, 3) := by decide +kernel
theorem dX11_takeLast_28 : decode cX11_takeLast 28 = .ok (.dup2, 1) := by decide +kernel
theorem dX11_takeLast_29 : decode cX11_takeLast 29 = .ok (.iaload, 1) := by decide +kernel
theorem dX11_takeLast_30 : decode cX11_takeLast 30 = .ok (.iconst 1, 1) := by decide +kernel
theorem dX11_takeLast_31 : decode cX11_takeLast 31 = .ok (.isub, 1) := by decide +kernel
theorem dX11_takeLast_32 : decode cX11_takeLast 32 = .ok (.iastore, 1) := by decide +kernel
theorem dX11_takeLast_33 : decode cX11_takeLast 33 = .ok (.aload_n 0, 1) := by decide +kernel
theorem dX11_takeLast_34 : decode cX11_takeLast 34 = .ok (.aload_n 0, 1) := by decide +kernel
theorem dX11_takeLast_35 : decode cX11_takeLast 35 = .ok (.getfield 32, 3) := by decide +kernel
theorem dX11_takeLast_38 : decode cX11_takeLast 38 = .ok (.bipush 12, 2) := by decide +kernel
theorem dX11_takeLast_40 : decode cX11_takeLast 40 = .ok (.aload_n 0, 1) := by decide +kernel
theorem dX11_takeLast_41 : decode cX11_takeLast 41 = .ok (.getfield 128, 3) := by decide +kernel
theorem dX11_takeLast_44 : decode cX11_takeLast 44 = .ok (.imul, 1) := by decide +kernel
theorem dX11_takeLast_45 : decode cX11_takeLast 45 = .ok (.aload_n 0, 1) := by decide +kernel
theorem dX11_takeLast_46 : decode cX11_takeLast 46 = .ok (.getfield 35, 3) := by decide +kernel
theorem dX11_takeLast_49 : decode cX11_takeLast 49 = .ok (.aload_n 0, 1) := by decide +kernel
theorem dX11_takeLast_50 : decode cX11_takeLast 50 = .ok (.getfield 128, 3) := by decide +kernel
theorem dX11_takeLast_53 : decode cX11_takeLast 53 = .ok (.iaload, 1) := by decide +kernel
theorem dX11_takeLast_54 : decode cX11_takeLast 54 = .ok (.iadd, 1) := by decide +kernel
theorem dX11_takeLast_55 : decode cX11_takeLast 55 = .ok (.iaload, 1) := by decide +kernel
theorem dX11_takeLast_56 : decode cX11_takeLast 56 = .ok (.invokevirtual 370, 3) := by decide +kernel
theorem dX11_takeLast_59 : decode cX11_takeLast 59 = .ok (.return_, 1) := by decide +kernel
abbrev mX11_type : gM := (yX11_type, cX11_type, 2, (Option.some FieldType.boolean), [])
theorem caX11_type : cal mX11_type 1 := ⟨xw 1921 (by decide +kernel) rfl, xw 102 (by decide +kernel) rfl, by decide, by decide +kernel⟩
theorem cvX11_type : calV mX11_type := ⟨xw 1920 (by decide +kernel) rfl, xw 79 (by decide +kernel) rfl⟩
abbrev mX11_letterOf : gM := (yX11_letterOf, cX11_letterOf, 4, (Option.some FieldType.int), [])
theorem caX11_letterOf : cal mX11_letterOf 1 := ⟨xw 1913 (by decide +kernel) rfl, xw 102 (by decide +kernel) rfl, by decide, by decide +kernel⟩
theorem cvX11_letterOf : calV mX11_letterOf := ⟨xw 1912 (by decide +kernel) rfl, xw 77 (by decide +kernel) rfl⟩
abbrev mX11_typeLetter : gM := (yX11_typeLetter, cX11_typeLetter, 3, (Option.none : Option FieldType), [])
theorem caX11_typeLetter : cal mX11_typeLetter 1 := ⟨xw 1917 (by decide +kernel) rfl, xw 102 (by decide +kernel) rfl, by decide, by decide +kernel⟩
theorem cvX11_typeLetter : calV mX11_typeLetter := ⟨xw 1916 (by decide +kernel) rfl, xw 78 (by decide +kernel) rfl⟩
abbrev mX11_takeLast : gM := (yX11_takeLast, cX11_takeLast, 1, (Option.none : Option FieldType), [])
theorem caX11_takeLast : cal mX11_takeLast 0 := ⟨xw 1929 (by decide +kernel) rfl, xw 102 (by decide +kernel) rfl, by decide, by decide +kernel⟩
theorem cvX11_takeLast : calV mX11_takeLast := ⟨xw 1928 (by decide +kernel) rfl, xw 81 (by decide +kernel) rfl⟩
theorem lkX11_370 : Cond.methodLink RX11 370 yX11_sayCode ∈ XW := xw 1922 (by decide +kernel) rfl
theorem lkX11_373 : Cond.methodLink RX11 373 yX11_type ∈ XW := xw 1918 (by decide +kernel) rfl
/-! BrailleDeskModel.type -/
theorem tX11_type {G : gG} (a0 : Nat) (h : hp) (a1 : Int32) (m : mm) (Q : hQ) (hF : okB (fX11_type a1 m) (pM gI Q a0 h)) : gS G mX11_type 4 0 0 [sr (some a0), si a1] (jn a0 h m) Q := by
  delta fX11_type at hF
  refine gS_at [some (sr (some a0)), some (si a1)] pl_X11 rfl (Nat.le_of_ble_eq_true rfl) rfl ?_
  refine v_aload_n (pc := 0) (i := 0) dX11_type_0 rfl rfl ?_
  refine m_getA (pc := 1) (j := 9) dX11_type_1 flX11_35 rfl (by decide) ?_
  refine v_aload_n (pc := 4) (i := 0) dX11_type_4 rfl rfl ?_
  refine m_getI (pc := 5) (j := 20) dX11_type_5 flX11_128 rfl rfl ?_
  refine m_iald (pc := 8) (j := 9) dX11_type_8 hF (fun x1 hF => ?_)
  refine v_bipush (pc := 9) (v := (12 : Int32)) dX11_type_9 rfl ?_
  refine v_icmp_ne (pc := 11) 34 dX11_type_11 rfl (fun hc => ?_) (fun hc => ?_)
  · replace hF := (okB_if hF).2 hc
    refine v_aload_n (pc := 34) (i := 0) dX11_type_34 rfl rfl ?_
    refine m_getA (pc := 35) (j := 8) dX11_type_35 flX11_32 rfl (by decide) ?_
    refine v_bipush (pc := 38) (v := (12 : Int32)) dX11_type_38 rfl ?_
    refine v_aload_n (pc := 40) (i := 0) dX11_type_40 rfl rfl ?_
    refine m_getI (pc := 41) (j := 20) dX11_type_41 flX11_128 rfl rfl ?_
    refine v_imul (pc := 44) dX11_type_44 ?_
    refine v_aload_n (pc := 45) (i := 0) dX11_type_45 rfl rfl ?_
    refine m_getA (pc := 46) (j := 9) dX11_type_46 flX11_35 rfl (by decide) ?_
    refine v_aload_n (pc := 49) (i := 0) dX11_type_49 rfl rfl ?_
    refine m_getI (pc := 50) (j := 20) dX11_type_50 flX11_128 rfl rfl ?_
    refine m_iald (pc := 53) (j := 9) dX11_type_53 hF (fun x2 hF => ?_)
    refine v_iadd (pc := 54) dX11_type_54 ?_
    refine v_iload_n (pc := 55) (i := 1) dX11_type_55 rfl rfl ?_
    refine m_iast (pc := 56) (j := 8) dX11_type_56 hF (fun m3 hF => ?_)
    refine v_aload_n (pc := 57) (i := 0) dX11_type_57 rfl rfl ?_
    refine m_getA (pc := 58) (j := 9) dX11_type_58 flX11_35 rfl (by decide) ?_
    refine v_aload_n (pc := 61) (i := 0) dX11_type_61 rfl rfl ?_
    refine m_getI (pc := 62) (j := 20) dX11_type_62 flX11_128 rfl rfl ?_
    refine v_dup2 (pc := 65) dX11_type_65 rfl rfl ?_
    refine m_iald (pc := 66) (j := 9) dX11_type_66 hF (fun x4 hF => ?_)
    refine v_iconst (pc := 67) (v := (1 : Int32)) dX11_type_67 rfl ?_
    refine v_iadd (pc := 68) dX11_type_68 ?_
    refine m_iast (pc := 69) (j := 9) dX11_type_69 hF (fun m5 hF => ?_)
    refine v_aload_n (pc := 70) (i := 0) dX11_type_70 rfl rfl ?_
    refine v_iload_n (pc := 71) (i := 1) dX11_type_71 rfl rfl ?_
    refine chM_V (pc := 72) gU (as := [si a1]) (st := []) (N := mX11_sayCode) (k := 0) (n := 0) (k1 := 0) (n1 := 0) dX11_type_72 lkX11_370 caX11_sayCode cvX11_sayCode rfl rfl (fun Q1 hq => tX11_sayCode a0 h a1 m5 Q1 hq) ⟨by decide, by decide⟩ (Nat.le_of_ble_eq_true rfl) rfl hF (fun x6 m7 hF => ?_)
    show gV G mX11_type 4 Q 75 [some (sr (some a0)), some (si a1)] [] (0) (0) (jn a0 h m7)
    refine v_iconst (pc := 75) (v := (1 : Int32)) dX11_type_75 rfl ?_
    exact v_iret (pc := 76) dX11_type_76 rfl rfl (okr hF fun q => q)
  replace hF := (okB_if hF).1 hc
  refine v_aload_n (pc := 14) (i := 0) dX11_type_14 rfl rfl ?_
  refine v_iconst (pc := 15) (v := (0 : Int32)) dX11_type_15 rfl ?_
  refine v_iconst (pc := 16) (v := (0 : Int32)) dX11_type_16 rfl ?_
  refine v_iconst (pc := 17) (v := (0 : Int32)) dX11_type_17 rfl ?_
  refine v_bipush (pc := 18) (v := (102 : Int32)) dX11_type_18 rfl ?_
  refine v_bipush (pc := 20) (v := (117 : Int32)) dX11_type_20 rfl ?_
  refine v_bipush (pc := 22) (v := (108 : Int32)) dX11_type_22 rfl ?_
  refine v_bipush (pc := 24) (v := (108 : Int32)) dX11_type_24 rfl ?_
  refine cp_S (pc := 26) gL (as := [si (0 : Int32), si (0 : Int32), si (0 : Int32), si (102 : Int32), si (117 : Int32), si (108 : Int32), si (108 : Int32)]) (st := [sr (some a0)]) (N := mX11_word) (k := 0) (n := 0) (k1 := 0) (n1 := 0) dX11_type_26 lkX11_133 caX11_word csX11_word rfl (fun Q1 hq => tX11_word (0 : Int32) (0 : Int32) (0 : Int32) (102 : Int32) (117 : Int32) (108 : Int32) (108 : Int32) (jn a0 h m) Q1 hq) ⟨by decide, by decide⟩ (Nat.le_of_ble_eq_true rfl) rfl hF (fun x8 hF => ?_)
  show gV G mX11_type 4 Q 29 [some (sr (some a0)), some (si a1)] [sl x8, sr (some a0)] (0) (0) (jn a0 h m)
  refine chM_V (pc := 29) gU (as := [sl x8]) (st := []) (N := mX11_say) (k := 0) (n := 0) (k1 := 0) (n1 := 0) dX11_type_29 lkX11_322 caX11_say cvX11_say rfl rfl (fun Q1 hq => tX11_say a0 h x8 m Q1 hq) ⟨by decide, by decide⟩ (Nat.le_of_ble_eq_true rfl) rfl hF (fun x9 m10 hF => ?_)
  show gV G mX11_type 4 Q 32 [some (sr (some a0)), some (si a1)] [] (0) (0) (jn a0 h m10)
  refine v_iconst (pc := 32) (v := (0 : Int32)) dX11_type_32 rfl ?_
  exact v_iret (pc := 33) dX11_type_33 rfl rfl (okr hF fun q => q)
/-! BrailleDeskModel.letterOf -/
theorem lX11_letterOf_4 {G : gG} {Q : hQ} {P : Int32 → Prop} {k n : Nat} (a0 : Nat) (h : hp) (c1 : Int32) (m : mm) (hJ : ∀ q : Int32, P q → gV G mX11_letterOf 1 Q 31 [none, none, some (si q), none] [] (k) (n) (jn a0 h m)) : ∀ (fu : Nat) (a : (Int32 × Int32)), okB (itr (fX11_letterOf_B4 c1 m) fu a) P → gV G mX11_letterOf 1 Q 4 [some (sr (some a0)), some (si c1), some (si a.1), some (si a.2)] [] (k) (n) (jn a0 h m) :=
  lpg (X := fun (a : (Int32 × Int32)) => gV G mX11_letterOf 1 Q 4 [some (sr (some a0)), some (si c1), some (si a.1), some (si a.2)] [] (k) (n) (jn a0 h m)) (fun a P2 hL hE hF => by
    delta fX11_letterOf_B4 at hF
    refine v_iload_n (pc := 4) (i := 3) dX11_letterOf_4 rfl rfl ?_
    refine v_bipush (pc := 5) (v := (26 : Int32)) dX11_letterOf_5 rfl ?_
    refine v_icmp_ge (pc := 7) 31 dX11_letterOf_7 rfl (fun hc => ?_) (fun hc => ?_)
    · replace hF := (okB_if hF).1 hc
      exact v_lle [none, none, some (si a.1), none] ⟨rfl, trivial⟩ (hJ a.1 (hE _ (okB_some hF)))
    replace hF := (okB_if hF).2 hc
    refine v_aload_n (pc := 10) (i := 0) dX11_letterOf_10 rfl rfl ?_
    refine v_iload_n (pc := 11) (i := 3) dX11_letterOf_11 rfl rfl ?_
    refine cpM_V (pc := 12) gI (as := [si a.2]) (st := []) (N := mX11_points) (k := k) (n := n) (k1 := 0) (n1 := 0) dX11_letterOf_12 lkX11_248 caX11_points cvX11_points rfl rfl (fun Q1 hq => tX11_points a0 h a.2 m Q1 hq) ⟨by decide, by decide⟩ (Nat.le_of_ble_eq_true rfl) rfl hF (fun x1 hF => ?_)
    show gV G mX11_letterOf 1 Q 15 [some (sr (some a0)), some (si c1), some (si a.1), some (si a.2)] [si x1] (k) (n) (jn a0 h m)
    refine v_iload_n (pc := 15) (i := 1) dX11_letterOf_15 rfl rfl ?_
    refine v_icmp_ne (pc := 16) 23 dX11_letterOf_16 rfl (fun hc => ?_) (fun hc => ?_)
    · replace hF := (okB_if hF).2 hc
      refine v_iload_n (pc := 23) (i := 2) dX11_letterOf_23 rfl rfl ?_
      refine v_istore_n (pc := 24) (i := 2) [some (sr (some a0)), some (si c1), some (si a.1), some (si a.2)] dX11_letterOf_24 rfl (by decide) rfl rfl ?_
      refine v_iinc (pc := 25) (i := 3) (a.2 + (1 : Int32)) [some (sr (some a0)), some (si c1), some (si a.1), some (si (a.2 + (1 : Int32)))] dX11_letterOf_25 rfl rfl rfl rfl ?_
      refine v_goto (pc := 28) 4 dX11_letterOf_28 rfl ?_
      exact v_lle [some (sr (some a0)), some (si c1), some (si a.1), some (si (a.2 + (1 : Int32)))] ⟨rfl, rfl, rfl, rfl, trivial⟩ (hL (a.1, a.2 + (1 : Int32)) (okB_some hF))
    replace hF := (okB_if hF).1 hc
    refine v_iload_n (pc := 19) (i := 3) dX11_letterOf_19 rfl rfl ?_
    refine v_goto (pc := 20) 24 dX11_letterOf_20 rfl ?_
    refine v_istore_n (pc := 24) (i := 2) [some (sr (some a0)), some (si c1), some (si a.2), some (si a.2)] dX11_letterOf_24 rfl (by decide) rfl rfl ?_
    refine v_iinc (pc := 25) (i := 3) (a.2 + (1 : Int32)) [some (sr (some a0)), some (si c1), some (si a.2), some (si (a.2 + (1 : Int32)))] dX11_letterOf_25 rfl rfl rfl rfl ?_
    refine v_goto (pc := 28) 4 dX11_letterOf_28 rfl ?_
    exact v_lle [some (sr (some a0)), some (si c1), some (si a.2), some (si (a.2 + (1 : Int32)))] ⟨rfl, rfl, rfl, rfl, trivial⟩ (hL (a.2, a.2 + (1 : Int32)) (okB_some hF)))
theorem tX11_letterOf {G : gG} (a0 : Nat) (h : hp) (a1 : Int32) (m : mm) (Q : hQ) (hF : okB (fX11_letterOf a1 m) (pP gI Q (jn a0 h m))) : gS G mX11_letterOf 1 0 0 [sr (some a0), si a1] (jn a0 h m) Q := by
  delta fX11_letterOf at hF
  refine gS_at [some (sr (some a0)), some (si a1), none, none] pl_X11 rfl (Nat.le_of_ble_eq_true rfl) rfl ?_
  refine v_iconst (pc := 0) (v := (-1 : Int32)) dX11_letterOf_0 rfl ?_
  refine v_istore_n (pc := 1) (i := 2) [some (sr (some a0)), some (si a1), some (si (-1 : Int32)), none] dX11_letterOf_1 rfl (by decide) rfl rfl ?_
  refine v_iconst (pc := 2) (v := (0 : Int32)) dX11_letterOf_2 rfl ?_
  refine v_istore_n (pc := 3) (i := 3) [some (sr (some a0)), some (si a1), some (si (-1 : Int32)), some (si (0 : Int32))] dX11_letterOf_3 rfl (by decide) rfl rfl ?_
  refine mg (X := fun q1 => gV G mX11_letterOf 1 Q 31 [none, none, some (si q1), none] [] (0) (0) (jn a0 h m)) hF (fun _ hj2 hF => v_lle [some (sr (some a0)), some (si a1), some (si (-1 : Int32)), some (si (0 : Int32))] ⟨rfl, rfl, rfl, rfl, trivial⟩ (lX11_letterOf_4 a0 h a1 m hj2 FU ((-1 : Int32), (0 : Int32)) hF)) (fun q1 hF => ?_)
  refine v_iload_n (pc := 31) (i := 2) dX11_letterOf_31 rfl rfl ?_
  exact v_iret (pc := 32) dX11_letterOf_32 rfl rfl (okr hF fun q => q)
/-! BrailleDeskModel.typeLetter -/
theorem tX11_typeLetter {G : gG} (a0 : Nat) (h : hp) (a1 : Int32) (m : mm) (Q : hQ) (hF : okB (fX11_typeLetter a1 m) (pM gU Q a0 h)) : gS G mX11_typeLetter 5 0 0 [sr (some a0), si a1] (jn a0 h m) Q := by
  delta fX11_typeLetter at hF
  refine gS_at [some (sr (some a0)), some (si a1), none] pl_X11 rfl (Nat.le_of_ble_eq_true rfl) rfl ?_
  refine v_aload_n (pc := 0) (i := 0) dX11_typeLetter_0 rfl rfl ?_
  refine m_getI (pc := 1) (j := 24) dX11_typeLetter_1 flX11_349 rfl rfl ?_
  refine v_if_eq (pc := 4) 43 dX11_typeLetter_4 rfl (fun hc => ?_) (fun hc => ?_)
  · replace hF := (okB_if hF).1 hc
    refine v_aload_n (pc := 43) (i := 0) dX11_typeLetter_43 rfl rfl ?_
    refine v_aload_n (pc := 44) (i := 0) dX11_typeLetter_44 rfl rfl ?_
    refine m_getI (pc := 45) (j := 23) dX11_typeLetter_45 flX11_346 rfl rfl ?_
    refine mg (X := fun q1 => gV G mX11_typeLetter 5 Q 58 [some (sr (some a0)), some (si a1), none] [si q1, sr (some a0)] (0) (0) (jn a0 h m)) hF (fun _ hj2 hF => ?_) (fun q1 hF => ?_)
    · refine v_if_eq (pc := 48) 56 dX11_typeLetter_48 rfl (fun hc => ?_) (fun hc => ?_)
      · replace hF := (okB_if hF).1 hc
        refine v_bipush (pc := 56) (v := (97 : Int32)) dX11_typeLetter_56 rfl ?_
        exact v_lle [some (sr (some a0)), some (si a1), none] ⟨rfl, rfl, trivial⟩ (hj2 (97 : Int32) (okB_some hF))
      replace hF := (okB_if hF).2 hc
      refine v_bipush (pc := 51) (v := (65 : Int32)) dX11_typeLetter_51 rfl ?_
      refine v_goto (pc := 53) 58 dX11_typeLetter_53 rfl ?_
      exact v_lle [some (sr (some a0)), some (si a1), none] ⟨rfl, rfl, trivial⟩ (hj2 (65 : Int32) (okB_some hF))
    refine v_iload_n (pc := 58) (i := 1) dX11_typeLetter_58 rfl rfl ?_
    refine v_iadd (pc := 59) dX11_typeLetter_59 ?_
    refine chM_V (pc := 60) gI (as := [si (q1 + a1)]) (st := []) (N := mX11_type) (k := 0) (n := 0) (k1 := 0) (n1 := 0) dX11_typeLetter_60 lkX11_373 caX11_type cvX11_type rfl rfl (fun Q1 hq => tX11_type a0 h (q1 + a1) m Q1 hq) ⟨by decide, by decide⟩ (Nat.le_of_ble_eq_true rfl) rfl hF (fun x3 m4 hF => ?_)
    show gV G mX11_typeLetter 5 Q 63 [some (sr (some a0)), some (si a1), none] [si x3] (0) (0) (jn a0 h m4)
    refine v_if_eq (pc := 63) 76 dX11_typeLetter_63 rfl (fun hc => ?_) (fun hc => ?_)
    · replace hF := (okB_if hF).1 hc
      exact v_ret (pc := 76) dX11_typeLetter_76 rfl (okr hF fun q => q)
    replace hF := (okB_if hF).2 hc
    refine v_aload_n (pc := 66) (i := 0) dX11_typeLetter_66 rfl rfl ?_
    refine v_iconst (pc := 67) (v := (0 : Int32)) dX11_typeLetter_67 rfl ?_
    refine m_putZ (pc := 68) (j := 23) dX11_typeLetter_68 flX11_346 rfl rfl rfl hF (fun m5 hF => ?_)
    refine v_aload_n (pc := 71) (i := 0) dX11_typeLetter_71 rfl rfl ?_
    refine v_iconst (pc := 72) (v := (0 : Int32)) dX11_typeLetter_72 rfl ?_
    refine m_putZ (pc := 73) (j := 24) dX11_typeLetter_73 flX11_349 rfl rfl rfl hF (fun m6 hF => ?_)
    exact v_ret (pc := 76) dX11_typeLetter_76 rfl (okr hF fun q => q)
  replace hF := (okB_if hF).2 hc
  refine v_aload_n (pc := 7) (i := 0) dX11_typeLetter_7 rfl rfl ?_
  refine m_getI (pc := 8) (j := 23) dX11_typeLetter_8 flX11_346 rfl rfl ?_
  refine v_if_ne (pc := 11) 43 dX11_typeLetter_11 rfl (fun hc => ?_) (fun hc => ?_)
  · replace hF := (okB_if hF).2 hc
    refine v_aload_n (pc := 43) (i := 0) dX11_typeLetter_43 rfl rfl ?_
    refine v_aload_n (pc := 44) (i := 0) dX11_typeLetter_44 rfl rfl ?_
    refine m_getI (pc := 45) (j := 23) dX11_typeLetter_45 flX11_346 rfl rfl ?_
    refine mg (X := fun q7 => gV G mX11_typeLetter 5 Q 58 [some (sr (some a0)), some (si a1), none] [si q7, sr (some a0)] (0) (0) (jn a0 h m)) hF (fun _ hj8 hF => ?_) (fun q7 hF => ?_)
    · refine v_if_eq (pc := 48) 56 dX11_typeLetter_48 rfl (fun hc => ?_) (fun hc => ?_)
      · replace hF := (okB_if hF).1 hc
        refine v_bipush (pc := 56) (v := (97 : Int32)) dX11_typeLetter_56 rfl ?_
        exact v_lle [some (sr (some a0)), some (si a1), none] ⟨rfl, rfl, trivial⟩ (hj8 (97 : Int32) (okB_some hF))
      replace hF := (okB_if hF).2 hc
      refine v_bipush (pc := 51) (v := (65 : Int32)) dX11_typeLetter_51 rfl ?_
      refine v_goto (pc := 53) 58 dX11_typeLetter_53 rfl ?_
      exact v_lle [some (sr (some a0)), some (si a1), none] ⟨rfl, rfl, trivial⟩ (hj8 (65 : Int32) (okB_some hF))
    refine v_iload_n (pc := 58) (i := 1) dX11_typeLetter_58 rfl rfl ?_
    refine v_iadd (pc := 59) dX11_typeLetter_59 ?_
    refine chM_V (pc := 60) gI (as := [si (q7 + a1)]) (st := []) (N := mX11_type) (k := 0) (n := 0) (k1 := 0) (n1 := 0) dX11_typeLetter_60 lkX11_373 caX11_type cvX11_type rfl rfl (fun Q1 hq => tX11_type a0 h (q7 + a1) m Q1 hq) ⟨by decide, by decide⟩ (Nat.le_of_ble_eq_true rfl) rfl hF (fun x9 m10 hF => ?_)
    show gV G mX11_typeLetter 5 Q 63 [some (sr (some a0)), some (si a1), none] [si x9] (0) (0) (jn a0 h m10)
    refine v_if_eq (pc := 63) 76 dX11_typeLetter_63 rfl (fun hc => ?_) (fun hc => ?_)
    · replace hF := (okB_if hF).1 hc
      exact v_ret (pc := 76) dX11_typeLetter_76 rfl (okr hF fun q => q)
    replace hF := (okB_if hF).2 hc
    refine v_aload_n (pc := 66) (i := 0) dX11_typeLetter_66 rfl rfl ?_
    refine v_iconst (pc := 67) (v := (0 : Int32)) dX11_typeLetter_67 rfl ?_
    refine m_putZ (pc := 68) (j := 23) dX11_typeLetter_68 flX11_346 rfl rfl rfl hF (fun m11 hF => ?_)
    refine v_aload_n (pc := 71) (i := 0) dX11_typeLetter_71 rfl rfl ?_
    refine v_iconst (pc := 72) (v := (0 : Int32)) dX11_typeLetter_72 rfl ?_
    refine m_putZ (pc := 73) (j := 24) dX11_typeLetter_73 flX11_349 rfl rfl rfl hF (fun m12 hF => ?_)
    exact v_ret (pc := 76) dX11_typeLetter_76 rfl (okr hF fun q => q)
  replace hF := (okB_if hF).1 hc
  refine v_iload_n (pc := 14) (i := 1) dX11_typeLetter_14 rfl rfl ?_
  refine v_bipush (pc := 15) (v := (10 : Int32)) dX11_typeLetter_15 rfl ?_
  refine v_icmp_ge (pc := 17) 43 dX11_typeLetter_17 rfl (fun hc => ?_) (fun hc => ?_)
  · replace hF := (okB_if hF).1 hc
    refine v_aload_n (pc := 43) (i := 0) dX11_typeLetter_43 rfl rfl ?_
    refine v_aload_n (pc := 44) (i := 0) dX11_typeLetter_44 rfl rfl ?_
    refine m_getI (pc := 45) (j := 23) dX11_typeLetter_45 flX11_346 rfl rfl ?_
    refine mg (X := fun q13 => gV G mX11_typeLetter 5 Q 58 [some (sr (some a0)), some (si a1), none] [si q13, sr (some a0)] (0) (0) (jn a0 h m)) hF (fun _ hj14 hF => ?_) (fun q13 hF => ?_)
    · refine v_if_eq (pc := 48) 56 dX11_typeLetter_48 rfl (fun hc => ?_) (fun hc => ?_)
      · replace hF := (okB_if hF).1 hc
        refine v_bipush (pc := 56) (v := (97 : Int32)) dX11_typeLetter_56 rfl ?_
        exact v_lle [some (sr (some a0)), some (si a1), none] ⟨rfl, rfl, trivial⟩ (hj14 (97 : Int32) (okB_some hF))
      replace hF := (okB_if hF).2 hc
      refine v_bipush (pc := 51) (v := (65 : Int32)) dX11_typeLetter_51 rfl ?_
      refine v_goto (pc := 53) 58 dX11_typeLetter_53 rfl ?_
      exact v_lle [some (sr (some a0)), some (si a1), none] ⟨rfl, rfl, trivial⟩ (hj14 (65 : Int32) (okB_some hF))
    refine v_iload_n (pc := 58) (i := 1) dX11_typeLetter_58 rfl rfl ?_
    refine v_iadd (pc := 59) dX11_typeLetter_59 ?_
    refine chM_V (pc := 60) gI (as := [si (q13 + a1)]) (st := []) (N := mX11_type) (k := 0) (n := 0) (k1 := 0) (n1 := 0) dX11_typeLetter_60 lkX11_373 caX11_type cvX11_type rfl rfl (fun Q1 hq => tX11_type a0 h (q13 + a1) m Q1 hq) ⟨by decide, by decide⟩ (Nat.le_of_ble_eq_true rfl) rfl hF (fun x15 m16 hF => ?_)
    show gV G mX11_typeLetter 5 Q 63 [some (sr (some a0)), some (si a1), none] [si x15] (0) (0) (jn a0 h m16)
    refine v_if_eq (pc := 63) 76 dX11_typeLetter_63 rfl (fun hc => ?_) (fun hc => ?_)
    · replace hF := (okB_if hF).1 hc
      exact v_ret (pc := 76) dX11_typeLetter_76 rfl (okr hF fun q => q)
    replace hF := (okB_if hF).2 hc
    refine v_aload_n (pc := 66) (i := 0) dX11_typeLetter_66 rfl rfl ?_
    refine v_iconst (pc := 67) (v := (0 : Int32)) dX11_typeLetter_67 rfl ?_
    refine m_putZ (pc := 68) (j := 23) dX11_typeLetter_68 flX11_346 rfl rfl rfl hF (fun m17 hF => ?_)
    refine v_aload_n (pc := 71) (i := 0) dX11_typeLetter_71 rfl rfl ?_
    refine v_iconst (pc := 72) (v := (0 : Int32)) dX11_typeLetter_72 rfl ?_
    refine m_putZ (pc := 73) (j := 24) dX11_typeLetter_73 flX11_349 rfl rfl rfl hF (fun m18 hF => ?_)
    exact v_ret (pc := 76) dX11_typeLetter_76 rfl (okr hF fun q => q)
  replace hF := (okB_if hF).2 hc
  refine v_aload_n (pc := 20) (i := 0) dX11_typeLetter_20 rfl rfl ?_
  refine v_iload_n (pc := 21) (i := 1) dX11_typeLetter_21 rfl rfl ?_
  refine v_bipush (pc := 22) (v := (9 : Int32)) dX11_typeLetter_22 rfl ?_
  refine mg (X := fun q19 => gV G mX11_typeLetter 5 Q 36 [none, none, none] [si q19, sr (some a0)] (0) (0) (jn a0 h m)) hF (fun _ hj20 hF => ?_) (fun q19 hF => ?_)
  · refine v_icmp_ne (pc := 24) 32 dX11_typeLetter_24 rfl (fun hc => ?_) (fun hc => ?_)
    · replace hF := (okB_if hF).2 hc
      refine v_bipush (pc := 32) (v := (49 : Int32)) dX11_typeLetter_32 rfl ?_
      refine v_iload_n (pc := 34) (i := 1) dX11_typeLetter_34 rfl rfl ?_
      refine v_iadd (pc := 35) dX11_typeLetter_35 ?_
      exact v_lle [none, none, none] trivial (hj20 ((49 : Int32) + a1) (okB_some hF))
    replace hF := (okB_if hF).1 hc
    refine v_bipush (pc := 27) (v := (48 : Int32)) dX11_typeLetter_27 rfl ?_
    refine v_goto (pc := 29) 36 dX11_typeLetter_29 rfl ?_
    exact v_lle [none, none, none] trivial (hj20 (48 : Int32) (okB_some hF))
  refine chM_V (pc := 36) gI (as := [si q19]) (st := []) (N := mX11_type) (k := 0) (n := 0) (k1 := 0) (n1 := 0) dX11_typeLetter_36 lkX11_373 caX11_type cvX11_type rfl rfl (fun Q1 hq => tX11_type a0 h q19 m Q1 hq) ⟨by decide, by decide⟩ (Nat.le_of_ble_eq_true rfl) rfl hF (fun x21 m22 hF => ?_)
  show gV G mX11_typeLetter 5 Q 39 [none, none, none] [si x21] (0) (0) (jn a0 h m22)
  refine v_istore_n (pc := 39) (i := 2) [none, none, some (si x21)] dX11_typeLetter_39 rfl (by decide) rfl rfl ?_
  refine v_goto (pc := 40) 76 dX11_typeLetter_40 rfl ?_
  exact v_ret (pc := 76) dX11_typeLetter_76 rfl (okr hF fun q => q)
/-! BrailleDeskModel.takeLast -/
theorem tX11_takeLast {G : gG} (a0 : Nat) (h : hp)  (m : mm) (Q : hQ) (hF : okB (fX11_takeLast m) (pM gU Q a0 h)) : gS G mX11_takeLast 4 0 0 [sr (some a0)] (jn a0 h m) Q := by
  delta fX11_takeLast at hF
  refine gS_at [some (sr (some a0))] pl_X11 rfl (Nat.le_of_ble_eq_true rfl) rfl ?_
  refine v_aload_n (pc := 0) (i := 0) dX11_takeLast_0 rfl rfl ?_
  refine m_getA (pc := 1) (j := 9) dX11_takeLast_1 flX11_35 rfl (by decide) ?_
  refine v_aload_n (pc := 4) (i := 0) dX11_takeLast_4 rfl rfl ?_
  refine m_getI (pc := 5) (j := 20) dX11_takeLast_5 flX11_128 rfl rfl ?_
  refine m_iald (pc := 8) (j := 9) dX11_takeLast_8 hF (fun x1 hF => ?_)
  refine v_if_ne (pc := 9) 20 dX11_takeLast_9 rfl (fun hc => ?_) (fun hc => ?_)
  · replace hF := (okB_if hF).2 hc
    refine v_aload_n (pc := 20) (i := 0) dX11_takeLast_20 rfl rfl ?_
    refine m_getA (pc := 21) (j := 9) dX11_takeLast_21 flX11_35 rfl (by decide) ?_
    refine v_aload_n (pc := 24) (i := 0) dX11_takeLast_24 rfl rfl ?_
    refine m_getI (pc := 25) (j := 20) dX11_takeLast_25 flX11_128 rfl rfl ?_
    refine v_dup2 (pc := 28) dX11_takeLast_28 rfl rfl ?_
    refine m_iald (pc := 29) (j := 9) dX11_takeLast_29 hF (fun x2 hF => ?_)
    refine v_iconst (pc := 30) (v := (1 : Int32)) dX11_takeLast_30 rfl ?_
    refine v_isub (pc := 31) dX11_takeLast_31 ?_
    refine m_iast (pc := 32) (j := 9) dX11_takeLast_32 hF (fun m3 hF => ?_)
    refine v_aload_n (pc := 33) (i := 0) dX11_takeLast_33 rfl rfl ?_
    refine v_aload_n (pc := 34) (i := 0) dX11_takeLast_34 rfl rfl ?_
    refine m_getA (pc := 35) (j := 8) dX11_takeLast_35 flX11_32 rfl (by decide) ?_
    refine v_bipush (pc := 38) (v := (12 : Int32)) dX11_takeLast_38 rfl ?_
    refine v_aload_n (pc := 40) (i := 0) dX11_takeLast_40 rfl rfl ?_
    refine m_getI (pc := 41) (j := 20) dX11_takeLast_41 flX11_128 rfl rfl ?_
    refine v_imul (pc := 44) dX11_takeLast_44 ?_
    refine v_aload_n (pc := 45) (i := 0) dX11_takeLast_45 rfl rfl ?_
    refine m_getA (pc := 46) (j := 9) dX11_takeLast_46 flX11_35 rfl (by decide) ?_
    refine v_aload_n (pc := 49) (i := 0) dX11_takeLast_49 rfl rfl ?_
    refine m_getI (pc := 50) (j := 20) dX11_takeLast_50 flX11_128 rfl rfl ?_
    refine m_iald (pc := 53) (j := 9) dX11_takeLast_53 hF (fun x4 hF => ?_)
    refine v_iadd (pc := 54) dX11_takeLast_54 ?_
    refine m_iald (pc := 55) (j := 8) dX11_takeLast_55 hF (fun x5 hF => ?_)
    refine chM_V (pc := 56) gU (as := [si x5]) (st := []) (N := mX11_sayCode) (k := 0) (n := 0) (k1 := 0) (n1 := 0) dX11_takeLast_56 lkX11_370 caX11_sayCode cvX11_sayCode rfl rfl (fun Q1 hq => tX11_sayCode a0 h x5 m3 Q1 hq) ⟨by decide, by decide⟩ (Nat.le_of_ble_eq_true rfl) rfl hF (fun x6 m7 hF => ?_)
    show gV G mX11_takeLast 4 Q 59 [some (sr (some a0))] [] (0) (0) (jn a0 h m7)
    exact v_ret (pc := 59) dX11_takeLast_59 rfl (okr hF fun q => q)
  replace hF := (okB_if hF).1 hc
  refine v_aload_n (pc := 12) (i := 0) dX11_takeLast_12 rfl rfl ?_
  refine cp_S (pc := 13) gL (as := []) (st := [sr (some a0)]) (N := mX11_none) (k := 0) (n := 0) (k1 := 0) (n1 := 0) dX11_takeLast_13 lkX11_340 caX11_none csX11_none rfl (fun Q1 hq => tX11_none (jn a0 h m) Q1 hq) ⟨by decide, by decide⟩ (Nat.le_of_ble_eq_true rfl) rfl hF (fun x8 hF => ?_)
  show gV G mX11_takeLast 4 Q 16 [some (sr (some a0))] [sl x8, sr (some a0)] (0) (0) (jn a0 h m)
  refine chM_V (pc := 16) gU (as := [sl x8]) (st := []) (N := mX11_say) (k := 0) (n := 0) (k1 := 0) (n1 := 0) dX11_takeLast_16 lkX11_322 caX11_say cvX11_say rfl rfl (fun Q1 hq => tX11_say a0 h x8 m Q1 hq) ⟨by decide, by decide⟩ (Nat.le_of_ble_eq_true rfl) rfl hF (fun x9 m10 hF => ?_)
  show gV G mX11_takeLast 4 Q 19 [some (sr (some a0))] [] (0) (0) (jn a0 h m10)
  exact v_ret (pc := 19) dX11_takeLast_19 rfl (okr hF fun q => q)
