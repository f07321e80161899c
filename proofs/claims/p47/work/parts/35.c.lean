/-! ===== methods: their functions and rows ===== -/
theorem dX10_wordsOf_0 : decode cX10_wordsOf 0 = .ok (.aload_n 1, 1) := by decide +kernel
theorem dX10_wordsOf_1 : decode cX10_wordsOf 1 = .ok (.invokevirtual 110, 3) := by decide +kernel
theorem dX10_wordsOf_4 : decode cX10_wordsOf 4 = .ok (.ifCond .ne 14, 3) := by decide +kernel
theorem dX10_wordsOf_7 : decode cX10_wordsOf 7 = .ok (.new 63, 3) := by decide +kernel
theorem dX10_wordsOf_10 : decode cX10_wordsOf 10 = .ok (.dup, 1) := by decide +kernel
theorem dX10_wordsOf_11 : decode cX10_wordsOf 11 = .ok (.ldc_w 331, 3) := by decide +kernel
theorem dX10_wordsOf_14 : decode cX10_wordsOf 14 = .ok (.invokespecial 67, 3) := by decide +kernel
theorem dX10_wordsOf_17 : decode cX10_wordsOf 17 = .ok (.athrow, 1) := by decide +kernel
theorem dX10_wordsOf_18 : decode cX10_wordsOf 18 = .ok (.aload_n 0, 1) := by decide +kernel
theorem dX10_wordsOf_19 : decode cX10_wordsOf 19 = .ok (.getfield 35, 3) := by decide +kernel
theorem dX10_wordsOf_22 : decode cX10_wordsOf 22 = .ok (.aload_n 1, 1) := by decide +kernel
theorem dX10_wordsOf_23 : decode cX10_wordsOf 23 = .ok (.invokevirtual 333, 3) := by decide +kernel
theorem dX10_wordsOf_26 : decode cX10_wordsOf 26 = .ok (.areturn, 1) := by decide +kernel
theorem dX10_wordsLength_0 : decode cX10_wordsLength 0 = .ok (.aload_n 0, 1) := by decide +kernel
theorem dX10_wordsLength_1 : decode cX10_wordsLength 1 = .ok (.aload_n 0, 1) := by decide +kernel
theorem dX10_wordsLength_2 : decode cX10_wordsLength 2 = .ok (.iload_n 1, 1) := by decide +kernel
theorem dX10_wordsLength_3 : decode cX10_wordsLength 3 = .ok (.invokevirtual 71, 3) := by decide +kernel
theorem dX10_wordsLength_6 : decode cX10_wordsLength 6 = .ok (.invokevirtual 273, 3) := by decide +kernel
theorem dX10_wordsLength_9 : decode cX10_wordsLength 9 = .ok (.invokevirtual 59, 3) := by decide +kernel
theorem dX10_wordsLength_12 : decode cX10_wordsLength 12 = .ok (.ireturn, 1) := by decide +kernel
theorem dX10_codeAt_0 : decode cX10_codeAt 0 = .ok (.iload_n 1, 1) := by decide +kernel
theorem dX10_codeAt_1 : decode cX10_codeAt 1 = .ok (.ifCond .lt 11, 3) := by decide +kernel
theorem dX10_codeAt_4 : decode cX10_codeAt 4 = .ok (.iload_n 1, 1) := by decide +kernel
theorem dX10_codeAt_5 : decode cX10_codeAt 5 = .ok (.aload_n 0, 1) := by decide +kernel
theorem dX10_codeAt_6 : decode cX10_codeAt 6 = .ok (.invokevirtual 59, 3) := by decide +kernel
theorem dX10_codeAt_9 : decode cX10_codeAt 9 = .ok (.if_icmp .lt 14, 3) := by decide +kernel
theorem dX10_codeAt_12 : decode cX10_codeAt 12 = .ok (.new 185, 3) := by decide +kernel
theorem dX10_codeAt_15 : decode cX10_codeAt 15 = .ok (.dup, 1) := by decide +kernel
theorem dX10_codeAt_16 : decode cX10_codeAt 16 = .ok (.ldc_w 326, 3) := by decide +kernel
theorem dX10_codeAt_19 : decode cX10_codeAt 19 = .ok (.invokespecial 189, 3) := by decide +kernel
theorem dX10_codeAt_22 : decode cX10_codeAt 22 = .ok (.athrow, 1) := by decide +kernel
theorem dX10_codeAt_23 : decode cX10_codeAt 23 = .ok (.aload_n 0, 1) := by decide +kernel
theorem dX10_codeAt_24 : decode cX10_codeAt 24 = .ok (.iload_n 1, 1) := by decide +kernel
theorem dX10_codeAt_25 : decode cX10_codeAt 25 = .ok (.invokevirtual 328, 3) := by decide +kernel
theorem dX10_codeAt_28 : decode cX10_codeAt 28 = .ok (.ireturn, 1) := by decide +kernel
theorem dX10_wordsAt_0 : decode cX10_wordsAt 0 = .ok (.aload_n 0, 1) := by decide +kernel
theorem dX10_wordsAt_1 : decode cX10_wordsAt 1 = .ok (.aload_n 0, 1) := by decide +kernel
theorem dX10_wordsAt_2 : decode cX10_wordsAt 2 = .ok (.iload_n 1, 1) := by decide +kernel
theorem dX10_wordsAt_3 : decode cX10_wordsAt 3 = .ok (.invokevirtual 71, 3) := by decide +kernel
theorem dX10_wordsAt_6 : decode cX10_wordsAt 6 = .ok (.invokevirtual 273, 3) := by decide +kernel
theorem dX10_wordsAt_9 : decode cX10_wordsAt 9 = .ok (.iload_n 2, 1) := by decide +kernel
theorem dX10_wordsAt_10 : decode cX10_wordsAt 10 = .ok (.invokestatic 190, 3) := by decide +kernel
theorem dX10_wordsAt_13 : decode cX10_wordsAt 13 = .ok (.ireturn, 1) := by decide +kernel
theorem dX10_tick_0 : decode cX10_tick 0 = .ok (.iload_n 1, 1) := by decide +kernel
theorem dX10_tick_1 : decode cX10_tick 1 = .ok (.iconst 1, 1) := by decide +kernel
theorem dX10_tick_2 : decode cX10_tick 2 = .ok (.if_icmp .lt 9, 3) := by decide +kernel
theorem dX10_tick_5 : decode cX10_tick 5 = .ok (.iload_n 1, 1) := by decide +kernel
theorem dX10_tick_6 : decode cX10_tick 6 = .ok (.bipush 50, 2) := by decide +kernel
theorem dX10_tick_8 : decode cX10_tick 8 = .ok (.if_icmp .le 14, 3) := by decide +kernel
theorem dX10_tick_11 : decode cX10_tick 11 = .ok (.new 52, 3) := by decide +kernel
theorem dX10_tick_14 : decode cX10_tick 14 = .ok (.dup, 1) := by decide +kernel
theorem dX10_tick_15 : decode cX10_tick 15 = .ok (.ldc_w 277, 3) := by decide +kernel
theorem dX10_tick_18 : decode cX10_tick 18 = .ok (.invokespecial 56, 3) := by decide +kernel
theorem dX10_tick_21 : decode cX10_tick 21 = .ok (.athrow, 1) := by decide +kernel
theorem dX10_tick_22 : decode cX10_tick 22 = .ok (.aload_n 0, 1) := by decide +kernel
theorem dX10_tick_23 : decode cX10_tick 23 = .ok (.getfield 19, 3) := by decide +kernel
theorem dX10_tick_26 : decode cX10_tick 26 = .ok (.getfield 279, 3) := by decide +kernel
theorem dX10_tick_29 : decode cX10_tick 29 = .ok (.istore_n 2, 1) := by decide +kernel
theorem dX10_tick_30 : decode cX10_tick 30 = .ok (.iconst 0, 1) := by decide +kernel
theorem dX10_tick_31 : decode cX10_tick 31 = .ok (.istore_n 3, 1) := by decide +kernel
theorem dX10_tick_32 : decode cX10_tick 32 = .ok (.iload_n 3, 1) := by decide +kernel
theorem dX10_tick_33 : decode cX10_tick 33 = .ok (.iload_n 1, 1) := by decide +kernel
theorem dX10_tick_34 : decode cX10_tick 34 = .ok (.if_icmp .ge 23, 3) := by decide +kernel
theorem dX10_tick_37 : decode cX10_tick 37 = .ok (.aload_n 0, 1) := by decide +kernel
theorem dX10_tick_38 : decode cX10_tick 38 = .ok (.getfield 28, 3) := by decide +kernel
theorem dX10_tick_41 : decode cX10_tick 41 = .ok (.invokevirtual 282, 3) := by decide +kernel
theorem dX10_tick_44 : decode cX10_tick 44 = .ok (.aload_n 0, 1) := by decide +kernel
theorem dX10_tick_45 : decode cX10_tick 45 = .ok (.getfield 19, 3) := by decide +kernel
theorem dX10_tick_48 : decode cX10_tick 48 = .ok (.invokevirtual 285, 3) := by decide +kernel
theorem dX10_tick_51 : decode cX10_tick 51 = .ok (.iinc 3 1, 3) := by decide +kernel
theorem dX10_tick_54 : decode cX10_tick 54 = .ok (.goto (-22), 3) := by decide +kernel
theorem dX10_tick_57 : decode cX10_tick 57 = .ok (.aload_n 0, 1) := by decide +kernel
theorem dX10_tick_58 : decode cX10_tick 58 = .ok (.getfield 19, 3) := by decide +kernel
theorem dX10_tick_61 : decode cX10_tick 61 = .ok (.getfield 279, 3) := by decide +kernel
theorem dX10_tick_64 : decode cX10_tick 64 = .ok (.iload_n 2, 1) := by decide +kernel
theorem dX10_tick_65 : decode cX10_tick 65 = .ok (.isub, 1) := by decide +kernel
theorem dX10_tick_66 : decode cX10_tick 66 = .ok (.ireturn, 1) := by decide +kernel
theorem dX10_waiting_0 : decode cX10_waiting 0 = .ok (.iload_n 1, 1) := by decide +kernel
theorem dX10_waiting_1 : decode cX10_waiting 1 = .ok (.ifCond .lt 8, 3) := by decide +kernel
theorem dX10_waiting_4 : decode cX10_waiting 4 = .ok (.iload_n 1, 1) := by decide +kernel
theorem dX10_waiting_5 : decode cX10_waiting 5 = .ok (.iconst 2, 1) := by decide +kernel
theorem dX10_waiting_6 : decode cX10_waiting 6 = .ok (.if_icmp .le 14, 3) := by decide +kernel
theorem dX10_waiting_9 : decode cX10_waiting 9 = .ok (.new 52, 3) := by decide +kernel
theorem dX10_waiting_12 : decode cX10_waiting 12 = .ok (.dup, 1) := by decide +kernel
theorem dX10_waiting_13 : decode cX10_waiting 13 = .ok (.ldc_w 297, 3) := by decide +kernel
theorem dX10_waiting_16 : decode cX10_waiting 16 = .ok (.invokespecial 56, 3) := by decide +kernel
theorem dX10_waiting_19 : decode cX10_waiting 19 = .ok (.athrow, 1) := by decide +kernel
theorem dX10_waiting_20 : decode cX10_waiting 20 = .ok (.aload_n 0, 1) := by decide +kernel
theorem dX10_waiting_21 : decode cX10_waiting 21 = .ok (.getfield 19, 3) := by decide +kernel
theorem dX10_waiting_24 : decode cX10_waiting 24 = .ok (.iload_n 1, 1) := by decide +kernel
theorem dX10_waiting_25 : decode cX10_waiting 25 = .ok (.invokevirtual 299, 3) := by decide +kernel
theorem dX10_waiting_28 : decode cX10_waiting 28 = .ok (.ireturn, 1) := by decide +kernel
abbrev mX10_wordsOf : gM := (yX10_wordsOf, cX10_wordsOf, 2, (Option.some (FieldType.object "BrailleDesk$Codes")), [])
theorem caX10_wordsOf : cal mX10_wordsOf 1 := ⟨xw 1118 (by decide +kernel) rfl, xw 29 (by decide +kernel) rfl, by decide, by decide +kernel⟩
theorem cvX10_wordsOf : calV mX10_wordsOf := ⟨xw 1117 (by decide +kernel) rfl, xw 26 (by decide +kernel) rfl⟩
abbrev mX10_wordsLength : gM := (yX10_wordsLength, cX10_wordsLength, 2, (Option.some FieldType.int), [])
theorem caX10_wordsLength : cal mX10_wordsLength 1 := ⟨xw 1114 (by decide +kernel) rfl, xw 29 (by decide +kernel) rfl, by decide, by decide +kernel⟩
theorem cvX10_wordsLength : calV mX10_wordsLength := ⟨xw 1112 (by decide +kernel) rfl, xw 1113 (by decide +kernel) rfl⟩
abbrev mX10_codeAt : gM := (yX10_codeAt, cX10_codeAt, 2, (Option.some FieldType.int), [])
theorem caX10_codeAt : cal mX10_codeAt 2 := ⟨xw 1127 (by decide +kernel) rfl, xw 29 (by decide +kernel) rfl, by decide, by decide +kernel⟩
theorem csX10_codeAt : Cond.static yX10_codeAt ∈ XW := xw 1126 (by decide +kernel) rfl
abbrev mX10_wordsAt : gM := (yX10_wordsAt, cX10_wordsAt, 3, (Option.some FieldType.int), [])
theorem caX10_wordsAt : cal mX10_wordsAt 2 := ⟨xw 1124 (by decide +kernel) rfl, xw 29 (by decide +kernel) rfl, by decide, by decide +kernel⟩
theorem cvX10_wordsAt : calV mX10_wordsAt := ⟨xw 1122 (by decide +kernel) rfl, xw 1123 (by decide +kernel) rfl⟩
abbrev mX10_tick : gM := (yX10_tick, cX10_tick, 4, (Option.some FieldType.int), [])
theorem caX10_tick : cal mX10_tick 1 := ⟨xw 796 (by decide +kernel) rfl, xw 29 (by decide +kernel) rfl, by decide, by decide +kernel⟩
theorem cvX10_tick : calV mX10_tick := ⟨xw 794 (by decide +kernel) rfl, xw 795 (by decide +kernel) rfl⟩
abbrev mX10_waiting : gM := (yX10_waiting, cX10_waiting, 2, (Option.some FieldType.int), [])
theorem caX10_waiting : cal mX10_waiting 1 := ⟨xw 858 (by decide +kernel) rfl, xw 29 (by decide +kernel) rfl, by decide, by decide +kernel⟩
theorem cvX10_waiting : calV mX10_waiting := ⟨xw 856 (by decide +kernel) rfl, xw 857 (by decide +kernel) rfl⟩
theorem lkX10_333 : Cond.methodLink RX10 333 yX5_wordsOf ∈ XW := xw 1120 (by decide +kernel) rfl
theorem lkX10_273 : Cond.methodLink RX10 273 yX10_wordsOf ∈ XW := xw 1115 (by decide +kernel) rfl
theorem lkX10_328 : Cond.methodLink RX10 328 yX1_at ∈ XW := xw 1129 (by decide +kernel) rfl
theorem lkX10_190 : Cond.methodLink RX10 190 yX10_codeAt ∈ XW := xw 1125 (by decide +kernel) rfl
theorem flX10_279 : fl RX10 279 8 9 := ⟨by decide, by decide, xw 214 (by decide +kernel) rfl⟩
theorem lkX10_282 : Cond.methodLink RX10 282 yX6_passTick ∈ XW := xw 798 (by decide +kernel) rfl
theorem lkX10_285 : Cond.methodLink RX10 285 yX9_speak ∈ XW := xw 841 (by decide +kernel) rfl
/-! BrailleDesk.wordsOf -/
theorem tX10_wordsOf {G : gG} (a0 : Nat) (a1 : (Option Nat)) (h : hp) (Q : hQ) (hF : okB (fX10_wordsOf a0 a1 h) (pX gR Q)) : gS G mX10_wordsOf 7 1 6 [sr (some a0), sr a1] h Q := by
  delta fX10_wordsOf at hF
  refine gS_at [some (sr (some a0)), some (sr a1)] pl_X10 rfl (Nat.le_of_ble_eq_true rfl) rfl ?_
  refine v_aload_n (pc := 0) (i := 1) dX10_wordsOf_0 rfl rfl ?_
  refine cp_V (pc := 1) gI (as := []) (st := []) (ci := 1) (N := mX2_isShownNow) (k := 1) (n := 6) (k1 := 0) (n1 := 0) dX10_wordsOf_1 lkX10_110 caX2_isShownNow cvX2_isShownNow rfl (by decide) rfl (fun b Q1 hq => tX2_isShownNow b h Q1 hq) ⟨by decide, by decide⟩ (Nat.le_of_ble_eq_true rfl) rfl hF (fun x1 hF => ?_)
  show gV G mX10_wordsOf 7 Q 4 [some (sr (some a0)), some (sr a1)] [si x1] (1) (6) h
  refine v_if_ne (pc := 4) 18 dX10_wordsOf_4 rfl (fun hc => ?_) (fun hc => ?_)
  · replace hF := (okB_if hF).2 hc
    refine v_aload_n (pc := 18) (i := 0) dX10_wordsOf_18 rfl rfl ?_
    refine s_getR (pc := 19) dX10_wordsOf_19 flX10_35 rfl hF (fun x2 hF => ?_)
    refine v_aload_n (pc := 22) (i := 1) dX10_wordsOf_22 rfl rfl ?_
    refine ch_V (pc := 23) gR (as := [sr a1]) (st := []) (ci := 4) (N := mX5_wordsOf) (k := 1) (n := 6) (k1 := 0) (n1 := 0) dX10_wordsOf_23 lkX10_333 caX5_wordsOf cvX5_wordsOf rfl (by decide) rfl (fun b Q1 hq => tX5_wordsOf b a1 h Q1 hq) ⟨by decide, by decide⟩ (Nat.le_of_ble_eq_true rfl) rfl hF (fun x3 h4 hF => ?_)
    show gV G mX10_wordsOf 7 Q 26 [some (sr (some a0)), some (sr a1)] [sr x3] (1) (6) h4
    exact v_aret (pc := 26) dX10_wordsOf_26 rfl (Or.inl ⟨_, rfl⟩) (okr hF fun q => q)
  replace hF := (okB_if hF).1 hc
  exact v_throwW (pc := 7) (k := 0) (n := 0) 41 dX10_wordsOf_7 dX10_wordsOf_10 dX10_wordsOf_11 dX10_wordsOf_14 dX10_wordsOf_17 rfl tfit_IllegalStateException tnames twX10_63_67 rfl (by decide) (Nat.le_of_ble_eq_true rfl) rfl (okr hF fun q => q)
/-! BrailleDesk.wordsLength -/
theorem tX10_wordsLength {G : gG} (a0 : Nat) (a1 : Int32) (h : hp) (Q : hQ) (hF : okB (fX10_wordsLength a0 a1 h) (pX gI Q)) : gS G mX10_wordsLength 8 2 12 [sr (some a0), si a1] h Q := by
  delta fX10_wordsLength at hF
  refine gS_at [some (sr (some a0)), some (si a1)] pl_X10 rfl (Nat.le_of_ble_eq_true rfl) rfl ?_
  refine v_aload_n (pc := 0) (i := 0) dX10_wordsLength_0 rfl rfl ?_
  refine v_aload_n (pc := 1) (i := 0) dX10_wordsLength_1 rfl rfl ?_
  refine v_iload_n (pc := 2) (i := 1) dX10_wordsLength_2 rfl rfl ?_
  refine ct_V (pc := 3) gR (as := [si a1]) (st := [sr (some a0)]) (ci := 9) (N := mX10_existing) (k := 1) (n := 6) (k1 := 1) (n1 := 6) dX10_wordsLength_3 lkX10_71 caX10_existing cvX10_existing rfl (by decide) rfl (fun b Q1 hq => tX10_existing b a1 h Q1 hq) ⟨by decide, by decide⟩ (Nat.le_of_ble_eq_true rfl) rfl hF (fun E hp => hp) (fun x1 hF => ?_)
  show gV G mX10_wordsLength 8 Q 6 [some (sr (some a0)), some (si a1)] [sr x1, sr (some a0)] (1) (6) h
  refine cx_V (pc := 6) gR (as := [sr x1]) (st := []) (ci := 9) (N := mX10_wordsOf) (k := 0) (n := 0) (k1 := 1) (n1 := 6) dX10_wordsLength_6 lkX10_273 caX10_wordsOf cvX10_wordsOf rfl (by decide) rfl (fun b Q1 hq => tX10_wordsOf b x1 h Q1 hq) ⟨by decide, by decide⟩ (Nat.le_of_ble_eq_true rfl) rfl hF (fun E h1 hp => hp) (fun x2 h3 hF => ?_)
  show gV G mX10_wordsLength 8 Q 9 [some (sr (some a0)), some (si a1)] [sr x2] (0) (0) h3
  refine cp_V (pc := 9) gI (as := []) (st := []) (ci := 0) (N := mX1_size) (k := 0) (n := 0) (k1 := 0) (n1 := 0) dX10_wordsLength_9 lkX10_59 caX1_size cvX1_size rfl (by decide) rfl (fun b Q1 hq => tX1_size b h3 Q1 hq) ⟨by decide, by decide⟩ (Nat.le_of_ble_eq_true rfl) rfl hF (fun x4 hF => ?_)
  show gV G mX10_wordsLength 8 Q 12 [some (sr (some a0)), some (si a1)] [si x4] (0) (0) h3
  exact v_iret (pc := 12) dX10_wordsLength_12 rfl rfl (okr hF fun q => q)
/-! BrailleDesk.codeAt -/
theorem tX10_codeAt {G : gG} (a0 : (Option Nat)) (a1 : Int32) (h : hp) (Q : hQ) (hF : okB (fX10_codeAt a0 a1 h) (pC gI Q h)) : gS G mX10_codeAt 6 1 6 [sr a0, si a1] h Q := by
  delta fX10_codeAt at hF
  refine gS_at [some (sr a0), some (si a1)] pl_X10 rfl (Nat.le_of_ble_eq_true rfl) rfl ?_
  refine v_iload_n (pc := 0) (i := 1) dX10_codeAt_0 rfl rfl ?_
  refine v_if_lt (pc := 1) 12 dX10_codeAt_1 rfl (fun hc => ?_) (fun hc => ?_)
  · replace hF := (okB_if hF).1 hc
    exact v_throwW (pc := 12) (k := 0) (n := 0) 25 dX10_codeAt_12 dX10_codeAt_15 dX10_codeAt_16 dX10_codeAt_19 dX10_codeAt_22 rfl tfit_IndexOutOfBoundsException tnames twX10_185_189 rfl (by decide) (Nat.le_of_ble_eq_true rfl) rfl (okr hF fun q => q)
  replace hF := (okB_if hF).2 hc
  refine v_iload_n (pc := 4) (i := 1) dX10_codeAt_4 rfl rfl ?_
  refine v_aload_n (pc := 5) (i := 0) dX10_codeAt_5 rfl rfl ?_
  refine cp_V (pc := 6) gI (as := []) (st := [si a1]) (ci := 0) (N := mX1_size) (k := 1) (n := 6) (k1 := 0) (n1 := 0) dX10_codeAt_6 lkX10_59 caX1_size cvX1_size rfl (by decide) rfl (fun b Q1 hq => tX1_size b h Q1 hq) ⟨by decide, by decide⟩ (Nat.le_of_ble_eq_true rfl) rfl hF (fun x1 hF => ?_)
  show gV G mX10_codeAt 6 Q 9 [some (sr a0), some (si a1)] [si x1, si a1] (1) (6) h
  refine v_icmp_lt (pc := 9) 23 dX10_codeAt_9 rfl (fun hc => ?_) (fun hc => ?_)
  · replace hF := (okB_if hF).1 hc
    refine v_aload_n (pc := 23) (i := 0) dX10_codeAt_23 rfl rfl ?_
    refine v_iload_n (pc := 24) (i := 1) dX10_codeAt_24 rfl rfl ?_
    refine cp_V (pc := 25) gI (as := [si a1]) (st := []) (ci := 0) (N := mX1_at) (k := 1) (n := 6) (k1 := 0) (n1 := 0) dX10_codeAt_25 lkX10_328 caX1_at cvX1_at rfl (by decide) rfl (fun b Q1 hq => tX1_at b a1 h Q1 hq) ⟨by decide, by decide⟩ (Nat.le_of_ble_eq_true rfl) rfl hF (fun x2 hF => ?_)
    show gV G mX10_codeAt 6 Q 28 [some (sr a0), some (si a1)] [si x2] (1) (6) h
    exact v_iret (pc := 28) dX10_codeAt_28 rfl rfl (okr hF fun q => q)
  replace hF := (okB_if hF).2 hc
  exact v_throwW (pc := 12) (k := 0) (n := 0) 25 dX10_codeAt_12 dX10_codeAt_15 dX10_codeAt_16 dX10_codeAt_19 dX10_codeAt_22 rfl tfit_IndexOutOfBoundsException tnames twX10_185_189 rfl (by decide) (Nat.le_of_ble_eq_true rfl) rfl (okr hF fun q => q)
/-! BrailleDesk.wordsAt -/
theorem tX10_wordsAt {G : gG} (a0 : Nat) (a1 : Int32) (a2 : Int32) (h : hp) (Q : hQ) (hF : okB (fX10_wordsAt a0 a1 a2 h) (pX gI Q)) : gS G mX10_wordsAt 8 3 18 [sr (some a0), si a1, si a2] h Q := by
  delta fX10_wordsAt at hF
  refine gS_at [some (sr (some a0)), some (si a1), some (si a2)] pl_X10 rfl (Nat.le_of_ble_eq_true rfl) rfl ?_
  refine v_aload_n (pc := 0) (i := 0) dX10_wordsAt_0 rfl rfl ?_
  refine v_aload_n (pc := 1) (i := 0) dX10_wordsAt_1 rfl rfl ?_
  refine v_iload_n (pc := 2) (i := 1) dX10_wordsAt_2 rfl rfl ?_
  refine ct_V (pc := 3) gR (as := [si a1]) (st := [sr (some a0)]) (ci := 9) (N := mX10_existing) (k := 2) (n := 12) (k1 := 1) (n1 := 6) dX10_wordsAt_3 lkX10_71 caX10_existing cvX10_existing rfl (by decide) rfl (fun b Q1 hq => tX10_existing b a1 h Q1 hq) ⟨by decide, by decide⟩ (Nat.le_of_ble_eq_true rfl) rfl hF (fun E hp => hp) (fun x1 hF => ?_)
  show gV G mX10_wordsAt 8 Q 6 [some (sr (some a0)), some (si a1), some (si a2)] [sr x1, sr (some a0)] (2) (12) h
  refine cx_V (pc := 6) gR (as := [sr x1]) (st := []) (ci := 9) (N := mX10_wordsOf) (k := 1) (n := 6) (k1 := 1) (n1 := 6) dX10_wordsAt_6 lkX10_273 caX10_wordsOf cvX10_wordsOf rfl (by decide) rfl (fun b Q1 hq => tX10_wordsOf b x1 h Q1 hq) ⟨by decide, by decide⟩ (Nat.le_of_ble_eq_true rfl) rfl hF (fun E h1 hp => hp) (fun x2 h3 hF => ?_)
  show gV G mX10_wordsAt 8 Q 9 [some (sr (some a0)), some (si a1), some (si a2)] [sr x2] (1) (6) h3
  refine v_iload_n (pc := 9) (i := 2) dX10_wordsAt_9 rfl rfl ?_
  refine ct_S (pc := 10) gI (as := [sr x2, si a2]) (st := []) (N := mX10_codeAt) (k := 0) (n := 0) (k1 := 1) (n1 := 6) dX10_wordsAt_10 lkX10_190 caX10_codeAt csX10_codeAt rfl (fun Q1 hq => tX10_codeAt x2 a2 h3 Q1 hq) ⟨by decide, by decide⟩ (Nat.le_of_ble_eq_true rfl) rfl hF (fun E hp => hp) (fun x4 hF => ?_)
  show gV G mX10_wordsAt 8 Q 13 [some (sr (some a0)), some (si a1), some (si a2)] [si x4] (0) (0) h3
  exact v_iret (pc := 13) dX10_wordsAt_13 rfl rfl (okr hF fun q => q)
/-! BrailleDesk.tick -/
theorem lX10_tick_32 {G : gG} {Q : hQ} {P : hp → Prop} {k n : Nat} (c0 : Nat) (c1 : Int32) (c2 : Int32) (hJ : ∀ q : hp, P q → gV G mX10_tick 6 Q 57 [some (sr (some c0)), none, some (si c2), none] [] (k) (n) q) : ∀ (fu : Nat) (a : (Int32 × hp)), okB (itr (fX10_tick_B32 c0 c1 c2) fu a) P → gV G mX10_tick 6 Q 32 [some (sr (some c0)), some (si c1), some (si c2), some (si a.1)] [] (k) (n) a.2 :=
  lpg (X := fun (a : (Int32 × hp)) => gV G mX10_tick 6 Q 32 [some (sr (some c0)), some (si c1), some (si c2), some (si a.1)] [] (k) (n) a.2) (fun a P2 hL hE hF => by
    delta fX10_tick_B32 at hF
    refine v_iload_n (pc := 32) (i := 3) dX10_tick_32 rfl rfl ?_
    refine v_iload_n (pc := 33) (i := 1) dX10_tick_33 rfl rfl ?_
    refine v_icmp_ge (pc := 34) 57 dX10_tick_34 rfl (fun hc => ?_) (fun hc => ?_)
    · replace hF := (okB_if hF).1 hc
      exact v_lle [some (sr (some c0)), none, some (si c2), none] ⟨rfl, rfl, trivial⟩ (hJ a.2 (hE _ (okB_some hF)))
    replace hF := (okB_if hF).2 hc
    refine v_aload_n (pc := 37) (i := 0) dX10_tick_37 rfl rfl ?_
    refine s_getR (pc := 38) dX10_tick_38 flX10_28 rfl hF (fun x1 hF => ?_)
    refine ch_V (pc := 41) gU (as := []) (st := []) (ci := 5) (N := mX6_passTick) (k := k) (n := n) (k1 := 0) (n1 := 0) dX10_tick_41 lkX10_282 caX6_passTick cvX6_passTick rfl (by decide) rfl (fun b Q1 hq => tX6_passTick b a.2 Q1 hq) ⟨by decide, by decide⟩ (Nat.le_of_ble_eq_true rfl) rfl hF (fun x2 h3 hF => ?_)
    show gV G mX10_tick 6 Q 44 [some (sr (some c0)), some (si c1), some (si c2), some (si a.1)] [] (k) (n) h3
    refine v_aload_n (pc := 44) (i := 0) dX10_tick_44 rfl rfl ?_
    refine s_getR (pc := 45) dX10_tick_45 flX10_19 rfl hF (fun x4 hF => ?_)
    refine ch_V (pc := 48) gU (as := []) (st := []) (ci := 8) (N := mX9_speak) (k := k) (n := n) (k1 := 0) (n1 := 0) dX10_tick_48 lkX10_285 caX9_speak cvX9_speak rfl (by decide) rfl (fun b Q1 hq => tX9_speak b h3 Q1 hq) ⟨by decide, by decide⟩ (Nat.le_of_ble_eq_true rfl) rfl hF (fun x5 h6 hF => ?_)
    show gV G mX10_tick 6 Q 51 [some (sr (some c0)), some (si c1), some (si c2), some (si a.1)] [] (k) (n) h6
    refine v_iinc (pc := 51) (i := 3) (a.1 + (1 : Int32)) [some (sr (some c0)), some (si c1), some (si c2), some (si (a.1 + (1 : Int32)))] dX10_tick_51 rfl rfl rfl rfl ?_
    refine v_goto (pc := 54) 32 dX10_tick_54 rfl ?_
    exact v_lle [some (sr (some c0)), some (si c1), some (si c2), some (si (a.1 + (1 : Int32)))] ⟨rfl, rfl, rfl, rfl, trivial⟩ (hL (a.1 + (1 : Int32), h6) (okB_some hF)))
theorem tX10_tick {G : gG} (a0 : Nat) (a1 : Int32) (h : hp) (Q : hQ) (hF : okB (fX10_tick a0 a1 h) (pX gI Q)) : gS G mX10_tick 6 1 6 [sr (some a0), si a1] h Q := by
  delta fX10_tick at hF
  refine gS_at [some (sr (some a0)), some (si a1), none, none] pl_X10 rfl (Nat.le_of_ble_eq_true rfl) rfl ?_
  refine v_iload_n (pc := 0) (i := 1) dX10_tick_0 rfl rfl ?_
  refine v_iconst (pc := 1) (v := (1 : Int32)) dX10_tick_1 rfl ?_
  refine v_icmp_lt (pc := 2) 11 dX10_tick_2 rfl (fun hc => ?_) (fun hc => ?_)
  · replace hF := (okB_if hF).1 hc
    exact v_throwW (pc := 11) (k := 0) (n := 0) 42 dX10_tick_11 dX10_tick_14 dX10_tick_15 dX10_tick_18 dX10_tick_21 rfl tfit_IllegalArgumentException tnames twX10_52_56 rfl (by decide) (Nat.le_of_ble_eq_true rfl) rfl (okr hF fun q => q)
  replace hF := (okB_if hF).2 hc
  refine v_iload_n (pc := 5) (i := 1) dX10_tick_5 rfl rfl ?_
  refine v_bipush (pc := 6) (v := (50 : Int32)) dX10_tick_6 rfl ?_
  refine v_icmp_le (pc := 8) 22 dX10_tick_8 rfl (fun hc => ?_) (fun hc => ?_)
  · replace hF := (okB_if hF).1 hc
    refine v_aload_n (pc := 22) (i := 0) dX10_tick_22 rfl rfl ?_
    refine s_getR (pc := 23) dX10_tick_23 flX10_19 rfl hF (fun x1 hF => ?_)
    refine s_getI (pc := 26) dX10_tick_26 flX10_279 rfl hF (fun x2 hF => ?_)
    refine v_istore_n (pc := 29) (i := 2) [some (sr (some a0)), some (si a1), some (si x2), none] dX10_tick_29 rfl (by decide) rfl rfl ?_
    refine v_iconst (pc := 30) (v := (0 : Int32)) dX10_tick_30 rfl ?_
    refine v_istore_n (pc := 31) (i := 3) [some (sr (some a0)), some (si a1), some (si x2), some (si (0 : Int32))] dX10_tick_31 rfl (by decide) rfl rfl ?_
    refine mg (X := fun q3 => gV G mX10_tick 6 Q 57 [some (sr (some a0)), none, some (si x2), none] [] (1) (6) q3) hF (fun _ hj6 hF => v_lle [some (sr (some a0)), some (si a1), some (si x2), some (si (0 : Int32))] ⟨rfl, rfl, rfl, rfl, trivial⟩ (lX10_tick_32 a0 a1 x2 hj6 FU ((0 : Int32), h) hF)) (fun q3 hF => ?_)
    refine v_aload_n (pc := 57) (i := 0) dX10_tick_57 rfl rfl ?_
    refine s_getR (pc := 58) dX10_tick_58 flX10_19 rfl hF (fun x4 hF => ?_)
    refine s_getI (pc := 61) dX10_tick_61 flX10_279 rfl hF (fun x5 hF => ?_)
    refine v_iload_n (pc := 64) (i := 2) dX10_tick_64 rfl rfl ?_
    refine v_isub (pc := 65) dX10_tick_65 ?_
    exact v_iret (pc := 66) dX10_tick_66 rfl rfl (okr hF fun q => q)
  replace hF := (okB_if hF).2 hc
  exact v_throwW (pc := 11) (k := 0) (n := 0) 42 dX10_tick_11 dX10_tick_14 dX10_tick_15 dX10_tick_18 dX10_tick_21 rfl tfit_IllegalArgumentException tnames twX10_52_56 rfl (by decide) (Nat.le_of_ble_eq_true rfl) rfl (okr hF fun q => q)
/-! BrailleDesk.waiting -/
theorem tX10_waiting {G : gG} (a0 : Nat) (a1 : Int32) (h : hp) (Q : hQ) (hF : okB (fX10_waiting a0 a1 h) (pC gI Q h)) : gS G mX10_waiting 6 1 6 [sr (some a0), si a1] h Q := by
  delta fX10_waiting at hF
  refine gS_at [some (sr (some a0)), some (si a1)] pl_X10 rfl (Nat.le_of_ble_eq_true rfl) rfl ?_
  refine v_iload_n (pc := 0) (i := 1) dX10_waiting_0 rfl rfl ?_
  refine v_if_lt (pc := 1) 9 dX10_waiting_1 rfl (fun hc => ?_) (fun hc => ?_)
  · replace hF := (okB_if hF).1 hc
    exact v_throwW (pc := 9) (k := 0) (n := 0) 43 dX10_waiting_9 dX10_waiting_12 dX10_waiting_13 dX10_waiting_16 dX10_waiting_19 rfl tfit_IllegalArgumentException tnames twX10_52_56 rfl (by decide) (Nat.le_of_ble_eq_true rfl) rfl (okr hF fun q => q)
  replace hF := (okB_if hF).2 hc
  refine v_iload_n (pc := 4) (i := 1) dX10_waiting_4 rfl rfl ?_
  refine v_iconst (pc := 5) (v := (2 : Int32)) dX10_waiting_5 rfl ?_
  refine v_icmp_le (pc := 6) 20 dX10_waiting_6 rfl (fun hc => ?_) (fun hc => ?_)
  · replace hF := (okB_if hF).1 hc
    refine v_aload_n (pc := 20) (i := 0) dX10_waiting_20 rfl rfl ?_
    refine s_getR (pc := 21) dX10_waiting_21 flX10_19 rfl hF (fun x1 hF => ?_)
    refine v_iload_n (pc := 24) (i := 1) dX10_waiting_24 rfl rfl ?_
    refine cp_V (pc := 25) gI (as := [si a1]) (st := []) (ci := 8) (N := mX9_countWaiting) (k := 1) (n := 6) (k1 := 0) (n1 := 0) dX10_waiting_25 lkX10_299 caX9_countWaiting cvX9_countWaiting rfl (by decide) rfl (fun b Q1 hq => tX9_countWaiting b a1 h Q1 hq) ⟨by decide, by decide⟩ (Nat.le_of_ble_eq_true rfl) rfl hF (fun x2 hF => ?_)
    show gV G mX10_waiting 6 Q 28 [some (sr (some a0)), some (si a1)] [si x2] (1) (6) h
    exact v_iret (pc := 28) dX10_waiting_28 rfl rfl (okr hF fun q => q)
  replace hF := (okB_if hF).2 hc
  exact v_throwW (pc := 9) (k := 0) (n := 0) 43 dX10_waiting_9 dX10_waiting_12 dX10_waiting_13 dX10_waiting_16 dX10_waiting_19 rfl tfit_IllegalArgumentException tnames twX10_52_56 rfl (by decide) (Nat.le_of_ble_eq_true rfl) rfl (okr hF fun q => q)
