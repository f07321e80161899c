/-! ===== methods: their functions and rows ===== -/
theorem dX10_focus_0 : decode cX10_focus 0 = .ok (.aload_n 0, 1) := by decide +kernel
theorem dX10_focus_1 : decode cX10_focus 1 = .ok (.getfield 35, 3) := by decide +kernel
theorem dX10_focus_4 : decode cX10_focus 4 = .ok (.getfield 240, 3) := by decide +kernel
theorem dX10_focus_7 : decode cX10_focus 7 = .ok (.astore_n 1, 1) := by decide +kernel
theorem dX10_focus_8 : decode cX10_focus 8 = .ok (.aload_n 1, 1) := by decide +kernel
theorem dX10_focus_9 : decode cX10_focus 9 = .ok (.ifnonnull 7, 3) := by decide +kernel
theorem dX10_focus_12 : decode cX10_focus 12 = .ok (.iconst (-1), 1) := by decide +kernel
theorem dX10_focus_13 : decode cX10_focus 13 = .ok (.goto 7, 3) := by decide +kernel
theorem dX10_focus_16 : decode cX10_focus 16 = .ok (.aload_n 1, 1) := by decide +kernel
theorem dX10_focus_17 : decode cX10_focus 17 = .ok (.getfield 103, 3) := by decide +kernel
theorem dX10_focus_20 : decode cX10_focus 20 = .ok (.ireturn, 1) := by decide +kernel
theorem dX10_isTyping_0 : decode cX10_isTyping 0 = .ok (.aload_n 0, 1) := by decide +kernel
theorem dX10_isTyping_1 : decode cX10_isTyping 1 = .ok (.getfield 35, 3) := by decide +kernel
theorem dX10_isTyping_4 : decode cX10_isTyping 4 = .ok (.getfield 243, 3) := by decide +kernel
theorem dX10_isTyping_7 : decode cX10_isTyping 7 = .ok (.getfield 247, 3) := by decide +kernel
theorem dX10_isTyping_10 : decode cX10_isTyping 10 = .ok (.ireturn, 1) := by decide +kernel
theorem dX10_offset_0 : decode cX10_offset 0 = .ok (.aload_n 0, 1) := by decide +kernel
theorem dX10_offset_1 : decode cX10_offset 1 = .ok (.getfield 35, 3) := by decide +kernel
theorem dX10_offset_4 : decode cX10_offset 4 = .ok (.getfield 252, 3) := by decide +kernel
theorem dX10_offset_7 : decode cX10_offset 7 = .ok (.getfield 256, 3) := by decide +kernel
theorem dX10_offset_10 : decode cX10_offset 10 = .ok (.ireturn, 1) := by decide +kernel
theorem dX10_lineLength_0 : decode cX10_lineLength 0 = .ok (.aload_n 0, 1) := by decide +kernel
theorem dX10_lineLength_1 : decode cX10_lineLength 1 = .ok (.getfield 35, 3) := by decide +kernel
theorem dX10_lineLength_4 : decode cX10_lineLength 4 = .ok (.getfield 252, 3) := by decide +kernel
theorem dX10_lineLength_7 : decode cX10_lineLength 7 = .ok (.getfield 261, 3) := by decide +kernel
theorem dX10_lineLength_10 : decode cX10_lineLength 10 = .ok (.invokevirtual 59, 3) := by decide +kernel
theorem dX10_lineLength_13 : decode cX10_lineLength 13 = .ok (.ireturn, 1) := by decide +kernel
theorem dX10_refuseNoPin_0 : decode cX10_refuseNoPin 0 = .ok (.iload_n 0, 1) := by decide +kernel
theorem dX10_refuseNoPin_1 : decode cX10_refuseNoPin 1 = .ok (.ifCond .lt 9, 3) := by decide +kernel
theorem dX10_refuseNoPin_4 : decode cX10_refuseNoPin 4 = .ok (.iload_n 0, 1) := by decide +kernel
theorem dX10_refuseNoPin_5 : decode cX10_refuseNoPin 5 = .ok (.bipush 10, 2) := by decide +kernel
theorem dX10_refuseNoPin_7 : decode cX10_refuseNoPin 7 = .ok (.if_icmp .lt 14, 3) := by decide +kernel
theorem dX10_refuseNoPin_10 : decode cX10_refuseNoPin 10 = .ok (.new 185, 3) := by decide +kernel
theorem dX10_refuseNoPin_13 : decode cX10_refuseNoPin 13 = .ok (.dup, 1) := by decide +kernel
theorem dX10_refuseNoPin_14 : decode cX10_refuseNoPin 14 = .ok (.ldc_w 322, 3) := by decide +kernel
theorem dX10_refuseNoPin_17 : decode cX10_refuseNoPin 17 = .ok (.invokespecial 189, 3) := by decide +kernel
theorem dX10_refuseNoPin_20 : decode cX10_refuseNoPin 20 = .ok (.athrow, 1) := by decide +kernel
theorem dX10_refuseNoPin_21 : decode cX10_refuseNoPin 21 = .ok (.return_, 1) := by decide +kernel
theorem dX10_pin_0 : decode cX10_pin 0 = .ok (.iload_n 1, 1) := by decide +kernel
theorem dX10_pin_1 : decode cX10_pin 1 = .ok (.invokestatic 264, 3) := by decide +kernel
theorem dX10_pin_4 : decode cX10_pin 4 = .ok (.aload_n 0, 1) := by decide +kernel
theorem dX10_pin_5 : decode cX10_pin 5 = .ok (.getfield 35, 3) := by decide +kernel
theorem dX10_pin_8 : decode cX10_pin 8 = .ok (.getfield 252, 3) := by decide +kernel
theorem dX10_pin_11 : decode cX10_pin 11 = .ok (.iload_n 1, 1) := by decide +kernel
theorem dX10_pin_12 : decode cX10_pin 12 = .ok (.invokevirtual 267, 3) := by decide +kernel
theorem dX10_pin_15 : decode cX10_pin 15 = .ok (.ireturn, 1) := by decide +kernel
theorem dX10_pinAnew_0 : decode cX10_pinAnew 0 = .ok (.iload_n 1, 1) := by decide +kernel
theorem dX10_pinAnew_1 : decode cX10_pinAnew 1 = .ok (.invokestatic 264, 3) := by decide +kernel
theorem dX10_pinAnew_4 : decode cX10_pinAnew 4 = .ok (.aload_n 0, 1) := by decide +kernel
theorem dX10_pinAnew_5 : decode cX10_pinAnew 5 = .ok (.getfield 35, 3) := by decide +kernel
theorem dX10_pinAnew_8 : decode cX10_pinAnew 8 = .ok (.iload_n 1, 1) := by decide +kernel
theorem dX10_pinAnew_9 : decode cX10_pinAnew 9 = .ok (.invokevirtual 270, 3) := by decide +kernel
theorem dX10_pinAnew_12 : decode cX10_pinAnew 12 = .ok (.ireturn, 1) := by decide +kernel
theorem dX10_wordsOf_0 : decode cX10_wordsOf 0 = .ok (.aload_n 1, 1) := by decide +kernel
theorem dX10_wordsOf_1 : decode cX10_wordsOf 1 = .ok (.invokevirtual 110, 3) := by decide +kernel
theorem dX10_wordsOf_4 : decode cX10_wordsOf 4 = .ok (.ifCond .ne 14, 3) := by decide +kernel
theorem dX10_wordsOf_7 : decode cX10_wordsOf 7 = .ok (.new 63, 3) := by decide +kernel
theorem dX10_wordsOf_10 : decode cX10_wordsOf 10 = .ok (.dup, 1) := by decide +kernel
theorem dX10_wordsOf_11 : decode cX10_wordsOf 11 = .ok (.ldc_w 331, 3) := by decide +kernel
theorem dX10_wordsOf_14 : decode cX10_wordsOf 14 = .ok (.invokespecial 67, 3) := by decide +kernel
theorem dX10_wordsOf_17 : decode cX10_wordsOf 17 = .ok (.athrow, 1) := by decide +kernel
theorem dX10_wordsOf_18 : decode cX10_wordsOf 18 = .ok (.aload_n 0, 1) := by decide +kernel
theorem dX10_wordsOf_19 : decode cX10_wordsOf 19 = .ok (.getfield 35, 3) := by decide +kernel
theorem dX10_wordsOf_22 : decode cX10_wordsOf 22 = .ok (.aload_n 1, 1) := by decide +kernel
theorem dX10_wordsOf_23 : decode cX10_wordsOf 23 = .ok (.invokevirtual 333, 3) := by decide +kernel
theorem dX10_wordsOf_26 : decode cX10_wordsOf 26 = .ok (.areturn, 1) := by decide +kernel
theorem dX10_wordsLength_0 : decode cX10_wordsLength 0 = .ok (.aload_n 0, 1) := by decide +kernel
theorem dX10_wordsLength_1 : decode cX10_wordsLength 1 = .ok (.aload_n 0, 1) := by decide +kernel
theorem dX10_wordsLength_2 : decode cX10_wordsLength 2 = .ok (.iload_n 1, 1) := by decide +kernel
theorem dX10_wordsLength_3 : decode cX10_wordsLength 3 = .ok (.invokevirtual 71, 3) := by decide +kernel
theorem dX10_wordsLength_6 : decode cX10_wordsLength 6 = .ok (.invokevirtual 273, 3) := by decide +kernel
theorem dX10_wordsLength_9 : decode cX10_wordsLength 9 = .ok (.invokevirtual 59, 3) := by decide +kernel
theorem dX10_wordsLength_12 : decode cX10_wordsLength 12 = .ok (.ireturn, 1) := by decide +kernel
theorem dX10_wordsAt_0 : decode cX10_wordsAt 0 = .ok (.aload_n 0, 1) := by decide +kernel
theorem dX10_wordsAt_1 : decode cX10_wordsAt 1 = .ok (.aload_n 0, 1) := by decide +kernel
theorem dX10_wordsAt_2 : decode cX10_wordsAt 2 = .ok (.iload_n 1, 1) := by decide +kernel
theorem dX10_wordsAt_3 : decode cX10_wordsAt 3 = .ok (.invokevirtual 71, 3) := by decide +kernel
theorem dX10_wordsAt_6 : decode cX10_wordsAt 6 = .ok (.invokevirtual 273, 3) := by decide +kernel
theorem dX10_wordsAt_9 : decode cX10_wordsAt 9 = .ok (.iload_n 2, 1) := by decide +kernel
theorem dX10_wordsAt_10 : decode cX10_wordsAt 10 = .ok (.invokestatic 190, 3) := by decide +kernel
theorem dX10_wordsAt_13 : decode cX10_wordsAt 13 = .ok (.ireturn, 1) := by decide +kernel
theorem dX10_tick_0 : decode cX10_tick 0 = .ok (.iload_n 1, 1) := by decide +kernel
theorem dX10_tick_1 : decode cX10_tick 1 = .ok (.iconst 1, 1) := by decide +kernel
theorem dX10_tick_2 : decode cX10_tick 2 = .ok (.if_icmp .lt 9, 3) := by decide +kernel
theorem dX10_tick_5 : decode cX10_tick 5 = .ok (.iload_n 1, 1) := by decide +kernel
theorem dX10_tick_6 : decode cX10_tick 6 = .ok (.bipush 50, 2) := by decide +kernel
theorem dX10_tick_8 : decode cX10_tick 8 = .ok (.if_icmp .le 14, 3) := by decide +kernel
theorem dX10_tick_11 : decode cX10_tick 11 = .ok (.new 52, 3) := by decide +kernel
theorem dX10_tick_14 : decode cX10_tick 14 = .ok (.dup, 1) := by decide +kernel
theorem dX10_tick_15 : decode cX10_tick 15 = .ok (.ldc_w 277, 3) := by decide +kernel
theorem dX10_tick_18 : decode cX10_tick 18 = .ok (.invokespecial 56, 3) := by decide +kernel
theorem dX10_tick_21 : decode cX10_tick 21 = .ok (.athrow, 1) := by decide +kernel
theorem dX10_tick_22 : decode cX10_tick 22 = .ok (.aload_n 0, 1) := by decide +kernel
theorem dX10_tick_23 : decode cX10_tick 23 = .ok (.getfield 19, 3) := by decide +kernel
theorem dX10_tick_26 : decode cX10_tick 26 = .ok (.getfield 279, 3) := by decide +kernel
theorem dX10_tick_29 : decode cX10_tick 29 = .ok (.istore_n 2, 1) := by decide +kernel
theorem dX10_tick_30 : decode cX10_tick 30 = .ok (.iconst 0, 1) := by decide +kernel
theorem dX10_tick_31 : decode cX10_tick 31 = .ok (.istore_n 3, 1) := by decide +kernel
theorem dX10_tick_32 : decode cX10_tick 32 = .ok (.iload_n 3, 1) := by decide +kernel
theorem dX10_tick_33 : decode cX10_tick 33 = .ok (.iload_n 1, 1) := by decide +kernel
theorem dX10_tick_34 : decode cX10_tick 34 = .ok (.if_icmp .ge 23, 3) := by decide +kernel
theorem dX10_tick_37 : decode cX10_tick 37 = .ok (.aload_n 0, 1) := by decide +kernel
theorem dX10_tick_38 : decode cX10_tick 38 = .ok (.getfield 28, 3) := by decide +kernel
theorem dX10_tick_41 : decode cX10_tick 41 = .ok (.invokevirtual 282, 3) := by decide +kernel
theorem dX10_tick_44 : decode cX10_tick 44 = .ok (.aload_n 0, 1) := by decide +kernel
theorem dX10_tick_45 : decode cX10_tick 45 = .ok (.getfield 19, 3) := by decide +kernel
theorem dX10_tick_48 : decode cX10_tick 48 = .ok (.invokevirtual 285, 3) := by decide +kernel
theorem dX10_tick_51 : decode cX10_tick 51 = .ok (.iinc 3 1, 3) := by decide +kernel
theorem dX10_tick_54 : decode cX10_tick 54 = .ok (.goto (-22), 3) := by decide +kernel
theorem dX10_tick_57 : decode cX10_tick 57 = .ok (.aload_n 0, 1) := by decide +kernel
theorem dX10_tick_58 : decode cX10_tick 58 = .ok (.getfield 19, 3) := by decide +kernel
theorem dX10_tick_61 : decode cX10_tick 61 = .ok (.getfield 279, 3) := by decide +kernel
theorem dX10_tick_64 : decode cX10_tick 64 = .ok (.iload_n 2, 1) := by decide +kernel
theorem dX10_tick_65 : decode cX10_tick 65 = .ok (.isub, 1) := by decide +kernel
theorem dX10_tick_66 : decode cX10_tick 66 = .ok (.ireturn, 1) := by decide +kernel
theorem dX10_time_0 : decode cX10_time 0 = .ok (.aload_n 0, 1) := by decide +kernel
theorem dX10_time_1 : decode cX10_time 1 = .ok (.getfield 28, 3) := by decide +kernel
theorem dX10_time_4 : decode cX10_time 4 = .ok (.getfield 288, 3) := by decide +kernel
theorem dX10_time_7 : decode cX10_time 7 = .ok (.ireturn, 1) := by decide +kernel
theorem dX10_speaking_0 : decode cX10_speaking 0 = .ok (.aload_n 0, 1) := by decide +kernel
theorem dX10_speaking_1 : decode cX10_speaking 1 = .ok (.getfield 19, 3) := by decide +kernel
theorem dX10_speaking_4 : decode cX10_speaking 4 = .ok (.getfield 291, 3) := by decide +kernel
theorem dX10_speaking_7 : decode cX10_speaking 7 = .ok (.ireturn, 1) := by decide +kernel
theorem dX10_left_0 : decode cX10_left 0 = .ok (.aload_n 0, 1) := by decide +kernel
theorem dX10_left_1 : decode cX10_left 1 = .ok (.getfield 19, 3) := by decide +kernel
theorem dX10_left_4 : decode cX10_left 4 = .ok (.invokevirtual 294, 3) := by decide +kernel
theorem dX10_left_7 : decode cX10_left 7 = .ok (.ireturn, 1) := by decide +kernel
theorem dX10_waiting_0 : decode cX10_waiting 0 = .ok (.iload_n 1, 1) := by decide +kernel
theorem dX10_waiting_1 : decode cX10_waiting 1 = .ok (.ifCond .lt 8, 3) := by decide +kernel
theorem dX10_waiting_4 : decode cX10_waiting 4 = .ok (.iload_n 1, 1) := by decide +kernel
theorem dX10_waiting_5 : decode cX10_waiting 5 = .ok (.iconst 2, 1) := by decide +kernel
theorem dX10_waiting_6 : decode cX10_waiting 6 = .ok (.if_icmp .le 14, 3) := by decide +kernel
theorem dX10_waiting_9 : decode cX10_waiting 9 = .ok (.new 52, 3) := by decide +kernel
theorem dX10_waiting_12 : decode cX10_waiting 12 = .ok (.dup, 1) := by decide +kernel
theorem dX10_waiting_13 : decode cX10_waiting 13 = .ok (.ldc_w 297, 3) := by decide +kernel
theorem dX10_waiting_16 : decode cX10_waiting 16 = .ok (.invokespecial 56, 3) := by decide +kernel
theorem dX10_waiting_19 : decode cX10_waiting 19 = .ok (.athrow, 1) := by decide +kernel
theorem dX10_waiting_20 : decode cX10_waiting 20 = .ok (.aload_n 0, 1) := by decide +kernel
theorem dX10_waiting_21 : decode cX10_waiting 21 = .ok (.getfield 19, 3) := by decide +kernel
theorem dX10_waiting_24 : decode cX10_waiting 24 = .ok (.iload_n 1, 1) := by decide +kernel
theorem dX10_waiting_25 : decode cX10_waiting 25 = .ok (.invokevirtual 299, 3) := by decide +kernel
theorem dX10_waiting_28 : decode cX10_waiting 28 = .ok (.ireturn, 1) := by decide +kernel
theorem dX10_heard_0 : decode cX10_heard 0 = .ok (.aload_n 0, 1) := by decide +kernel
theorem dX10_heard_1 : decode cX10_heard 1 = .ok (.getfield 19, 3) := by decide +kernel
theorem dX10_heard_4 : decode cX10_heard 4 = .ok (.getfield 279, 3) := by decide +kernel
theorem dX10_heard_7 : decode cX10_heard 7 = .ok (.ireturn, 1) := by decide +kernel
theorem dX10_heardAt_0 : decode cX10_heardAt 0 = .ok (.iload_n 1, 1) := by decide +kernel
theorem dX10_heardAt_1 : decode cX10_heardAt 1 = .ok (.ifCond .lt 20, 3) := by decide +kernel
theorem dX10_heardAt_4 : decode cX10_heardAt 4 = .ok (.iload_n 1, 1) := by decide +kernel
theorem dX10_heardAt_5 : decode cX10_heardAt 5 = .ok (.bipush 100, 2) := by decide +kernel
theorem dX10_heardAt_7 : decode cX10_heardAt 7 = .ok (.if_icmp .ge 14, 3) := by decide +kernel
theorem dX10_heardAt_10 : decode cX10_heardAt 10 = .ok (.iload_n 1, 1) := by decide +kernel
theorem dX10_heardAt_11 : decode cX10_heardAt 11 = .ok (.aload_n 0, 1) := by decide +kernel
theorem dX10_heardAt_12 : decode cX10_heardAt 12 = .ok (.getfield 19, 3) := by decide +kernel
theorem dX10_heardAt_15 : decode cX10_heardAt 15 = .ok (.getfield 279, 3) := by decide +kernel
theorem dX10_heardAt_18 : decode cX10_heardAt 18 = .ok (.if_icmp .lt 14, 3) := by decide +kernel
theorem dX10_heardAt_21 : decode cX10_heardAt 21 = .ok (.new 185, 3) := by decide +kernel
theorem dX10_heardAt_24 : decode cX10_heardAt 24 = .ok (.dup, 1) := by decide +kernel
theorem dX10_heardAt_25 : decode cX10_heardAt 25 = .ok (.ldc_w 302, 3) := by decide +kernel
theorem dX10_heardAt_28 : decode cX10_heardAt 28 = .ok (.invokespecial 189, 3) := by decide +kernel
theorem dX10_heardAt_31 : decode cX10_heardAt 31 = .ok (.athrow, 1) := by decide +kernel
theorem dX10_heardAt_32 : decode cX10_heardAt 32 = .ok (.aload_n 0, 1) := by decide +kernel
theorem dX10_heardAt_33 : decode cX10_heardAt 33 = .ok (.getfield 19, 3) := by decide +kernel
theorem dX10_heardAt_36 : decode cX10_heardAt 36 = .ok (.iload_n 1, 1) := by decide +kernel
theorem dX10_heardAt_37 : decode cX10_heardAt 37 = .ok (.invokevirtual 304, 3) := by decide +kernel
theorem dX10_heardAt_40 : decode cX10_heardAt 40 = .ok (.ireturn, 1) := by decide +kernel
theorem dX10_dropped_0 : decode cX10_dropped 0 = .ok (.aload_n 0, 1) := by decide +kernel
theorem dX10_dropped_1 : decode cX10_dropped 1 = .ok (.getfield 19, 3) := by decide +kernel
theorem dX10_dropped_4 : decode cX10_dropped 4 = .ok (.getfield 307, 3) := by decide +kernel
theorem dX10_dropped_7 : decode cX10_dropped 7 = .ok (.ireturn, 1) := by decide +kernel
theorem dX10_swallowed_0 : decode cX10_swallowed 0 = .ok (.aload_n 0, 1) := by decide +kernel
theorem dX10_swallowed_1 : decode cX10_swallowed 1 = .ok (.getfield 28, 3) := by decide +kernel
theorem dX10_swallowed_4 : decode cX10_swallowed 4 = .ok (.getfield 310, 3) := by decide +kernel
theorem dX10_swallowed_7 : decode cX10_swallowed 7 = .ok (.ireturn, 1) := by decide +kernel
abbrev mX10_focus : gM := (yX10_focus, cX10_focus, 2, (Option.some FieldType.int), [])
theorem caX10_focus : cal mX10_focus 0 := ⟨xw 553 (by decide +kernel) rfl, xw 87 (by decide +kernel) rfl, by decide, by decide +kernel⟩
theorem cvX10_focus : calV mX10_focus := ⟨xw 551 (by decide +kernel) rfl, xw 552 (by decide +kernel) rfl⟩
abbrev mX10_isTyping : gM := (yX10_isTyping, cX10_isTyping, 1, (Option.some FieldType.boolean), [])
theorem caX10_isTyping : cal mX10_isTyping 0 := ⟨xw 557 (by decide +kernel) rfl, xw 87 (by decide +kernel) rfl, by decide, by decide +kernel⟩
theorem cvX10_isTyping : calV mX10_isTyping := ⟨xw 555 (by decide +kernel) rfl, xw 556 (by decide +kernel) rfl⟩
abbrev mX10_offset : gM := (yX10_offset, cX10_offset, 1, (Option.some FieldType.int), [])
theorem caX10_offset : cal mX10_offset 0 := ⟨xw 561 (by decide +kernel) rfl, xw 87 (by decide +kernel) rfl, by decide, by decide +kernel⟩
theorem cvX10_offset : calV mX10_offset := ⟨xw 559 (by decide +kernel) rfl, xw 560 (by decide +kernel) rfl⟩
abbrev mX10_lineLength : gM := (yX10_lineLength, cX10_lineLength, 1, (Option.some FieldType.int), [])
theorem caX10_lineLength : cal mX10_lineLength 0 := ⟨xw 565 (by decide +kernel) rfl, xw 87 (by decide +kernel) rfl, by decide, by decide +kernel⟩
theorem cvX10_lineLength : calV mX10_lineLength := ⟨xw 563 (by decide +kernel) rfl, xw 564 (by decide +kernel) rfl⟩
abbrev mX10_refuseNoPin : gM := (yX10_refuseNoPin, cX10_refuseNoPin, 1, (Option.none : Option FieldType), [])
theorem caX10_refuseNoPin : cal mX10_refuseNoPin 1 := ⟨xw 1296 (by decide +kernel) rfl, xw 87 (by decide +kernel) rfl, by decide, by decide +kernel⟩
theorem csX10_refuseNoPin : Cond.static yX10_refuseNoPin ∈ XW := xw 1295 (by decide +kernel) rfl
abbrev mX10_pin : gM := (yX10_pin, cX10_pin, 2, (Option.some FieldType.int), [])
theorem caX10_pin : cal mX10_pin 1 := ⟨xw 1293 (by decide +kernel) rfl, xw 87 (by decide +kernel) rfl, by decide, by decide +kernel⟩
theorem cvX10_pin : calV mX10_pin := ⟨xw 1291 (by decide +kernel) rfl, xw 1292 (by decide +kernel) rfl⟩
abbrev mX10_pinAnew : gM := (yX10_pinAnew, cX10_pinAnew, 2, (Option.some FieldType.int), [])
theorem caX10_pinAnew : cal mX10_pinAnew 1 := ⟨xw 1313 (by decide +kernel) rfl, xw 87 (by decide +kernel) rfl, by decide, by decide +kernel⟩
theorem cvX10_pinAnew : calV mX10_pinAnew := ⟨xw 1311 (by decide +kernel) rfl, xw 1312 (by decide +kernel) rfl⟩
abbrev mX10_wordsOf : gM := (yX10_wordsOf, cX10_wordsOf, 2, (Option.some (FieldType.object "BrailleDesk$Codes")), [])
theorem caX10_wordsOf : cal mX10_wordsOf 1 := ⟨xw 1332 (by decide +kernel) rfl, xw 87 (by decide +kernel) rfl, by decide, by decide +kernel⟩
theorem cvX10_wordsOf : calV mX10_wordsOf := ⟨xw 1331 (by decide +kernel) rfl, xw 25 (by decide +kernel) rfl⟩
abbrev mX10_wordsLength : gM := (yX10_wordsLength, cX10_wordsLength, 2, (Option.some FieldType.int), [])
theorem caX10_wordsLength : cal mX10_wordsLength 1 := ⟨xw 1328 (by decide +kernel) rfl, xw 87 (by decide +kernel) rfl, by decide, by decide +kernel⟩
theorem cvX10_wordsLength : calV mX10_wordsLength := ⟨xw 1326 (by decide +kernel) rfl, xw 1327 (by decide +kernel) rfl⟩
abbrev mX10_wordsAt : gM := (yX10_wordsAt, cX10_wordsAt, 3, (Option.some FieldType.int), [])
theorem caX10_wordsAt : cal mX10_wordsAt 2 := ⟨xw 1341 (by decide +kernel) rfl, xw 87 (by decide +kernel) rfl, by decide, by decide +kernel⟩
theorem cvX10_wordsAt : calV mX10_wordsAt := ⟨xw 1339 (by decide +kernel) rfl, xw 1340 (by decide +kernel) rfl⟩
abbrev mX10_tick : gM := (yX10_tick, cX10_tick, 4, (Option.some FieldType.int), [])
theorem caX10_tick : cal mX10_tick 1 := ⟨xw 1348 (by decide +kernel) rfl, xw 87 (by decide +kernel) rfl, by decide, by decide +kernel⟩
theorem cvX10_tick : calV mX10_tick := ⟨xw 1346 (by decide +kernel) rfl, xw 1347 (by decide +kernel) rfl⟩
abbrev mX10_time : gM := (yX10_time, cX10_time, 1, (Option.some FieldType.int), [])
theorem caX10_time : cal mX10_time 0 := ⟨xw 570 (by decide +kernel) rfl, xw 87 (by decide +kernel) rfl, by decide, by decide +kernel⟩
theorem cvX10_time : calV mX10_time := ⟨xw 568 (by decide +kernel) rfl, xw 569 (by decide +kernel) rfl⟩
abbrev mX10_speaking : gM := (yX10_speaking, cX10_speaking, 1, (Option.some FieldType.int), [])
theorem caX10_speaking : cal mX10_speaking 0 := ⟨xw 574 (by decide +kernel) rfl, xw 87 (by decide +kernel) rfl, by decide, by decide +kernel⟩
theorem cvX10_speaking : calV mX10_speaking := ⟨xw 572 (by decide +kernel) rfl, xw 573 (by decide +kernel) rfl⟩
abbrev mX10_left : gM := (yX10_left, cX10_left, 1, (Option.some FieldType.int), [])
theorem caX10_left : cal mX10_left 0 := ⟨xw 578 (by decide +kernel) rfl, xw 87 (by decide +kernel) rfl, by decide, by decide +kernel⟩
theorem cvX10_left : calV mX10_left := ⟨xw 576 (by decide +kernel) rfl, xw 577 (by decide +kernel) rfl⟩
abbrev mX10_waiting : gM := (yX10_waiting, cX10_waiting, 2, (Option.some FieldType.int), [])
theorem caX10_waiting : cal mX10_waiting 1 := ⟨xw 1377 (by decide +kernel) rfl, xw 87 (by decide +kernel) rfl, by decide, by decide +kernel⟩
theorem cvX10_waiting : calV mX10_waiting := ⟨xw 1375 (by decide +kernel) rfl, xw 1376 (by decide +kernel) rfl⟩
abbrev mX10_heard : gM := (yX10_heard, cX10_heard, 1, (Option.some FieldType.int), [])
theorem caX10_heard : cal mX10_heard 0 := ⟨xw 587 (by decide +kernel) rfl, xw 87 (by decide +kernel) rfl, by decide, by decide +kernel⟩
theorem cvX10_heard : calV mX10_heard := ⟨xw 585 (by decide +kernel) rfl, xw 586 (by decide +kernel) rfl⟩
abbrev mX10_heardAt : gM := (yX10_heardAt, cX10_heardAt, 2, (Option.some FieldType.int), [])
theorem caX10_heardAt : cal mX10_heardAt 1 := ⟨xw 1385 (by decide +kernel) rfl, xw 87 (by decide +kernel) rfl, by decide, by decide +kernel⟩
theorem cvX10_heardAt : calV mX10_heardAt := ⟨xw 1383 (by decide +kernel) rfl, xw 1384 (by decide +kernel) rfl⟩
abbrev mX10_dropped : gM := (yX10_dropped, cX10_dropped, 1, (Option.some FieldType.int), [])
theorem caX10_dropped : cal mX10_dropped 0 := ⟨xw 591 (by decide +kernel) rfl, xw 87 (by decide +kernel) rfl, by decide, by decide +kernel⟩
theorem cvX10_dropped : calV mX10_dropped := ⟨xw 589 (by decide +kernel) rfl, xw 590 (by decide +kernel) rfl⟩
abbrev mX10_swallowed : gM := (yX10_swallowed, cX10_swallowed, 1, (Option.some FieldType.int), [])
theorem caX10_swallowed : cal mX10_swallowed 0 := ⟨xw 595 (by decide +kernel) rfl, xw 87 (by decide +kernel) rfl, by decide, by decide +kernel⟩
theorem cvX10_swallowed : calV mX10_swallowed := ⟨xw 593 (by decide +kernel) rfl, xw 594 (by decide +kernel) rfl⟩
theorem flX10_240 : fl RX10 240 4 6 := ⟨by decide, by decide, xw 497 (by decide +kernel) rfl⟩
theorem flX10_243 : fl RX10 243 4 3 := ⟨by decide, by decide, xw 492 (by decide +kernel) rfl⟩
theorem flX10_247 : fl RX10 247 7 0 := ⟨by decide, by decide, xw 363 (by decide +kernel) rfl⟩
theorem flX10_252 : fl RX10 252 4 2 := ⟨by decide, by decide, xw 490 (by decide +kernel) rfl⟩
theorem flX10_256 : fl RX10 256 2 2 := ⟨by decide, by decide, xw 347 (by decide +kernel) rfl⟩
theorem flX10_261 : fl RX10 261 2 0 := ⟨by decide, by decide, xw 343 (by decide +kernel) rfl⟩
theorem lkX10_264 : Cond.methodLink RX10 264 yX10_refuseNoPin ∈ XW := xw 1294 (by decide +kernel) rfl
theorem lkX10_267 : Cond.methodLink RX10 267 yX3_cell ∈ XW := xw 1298 (by decide +kernel) rfl
theorem lkX10_270 : Cond.methodLink RX10 270 yX5_cellAnew ∈ XW := xw 1314 (by decide +kernel) rfl
theorem lkX10_333 : Cond.methodLink RX10 333 yX5_wordsOf ∈ XW := xw 1334 (by decide +kernel) rfl
theorem lkX10_273 : Cond.methodLink RX10 273 yX10_wordsOf ∈ XW := xw 1329 (by decide +kernel) rfl
theorem flX10_279 : fl RX10 279 8 9 := ⟨by decide, by decide, xw 276 (by decide +kernel) rfl⟩
theorem lkX10_282 : Cond.methodLink RX10 282 yX6_passTick ∈ XW := xw 1350 (by decide +kernel) rfl
theorem lkX10_285 : Cond.methodLink RX10 285 yX9_speak ∈ XW := xw 1358 (by decide +kernel) rfl
theorem flX10_288 : fl RX10 288 5 3 := ⟨by decide, by decide, xw 314 (by decide +kernel) rfl⟩
theorem flX10_291 : fl RX10 291 8 7 := ⟨by decide, by decide, xw 273 (by decide +kernel) rfl⟩
theorem lkX10_294 : Cond.methodLink RX10 294 yX9_unspoken ∈ XW := xw 579 (by decide +kernel) rfl
theorem lkX10_304 : Cond.methodLink RX10 304 yX9_spokenAgo ∈ XW := xw 1387 (by decide +kernel) rfl
theorem flX10_307 : fl RX10 307 8 10 := ⟨by decide, by decide, xw 278 (by decide +kernel) rfl⟩
theorem flX10_310 : fl RX10 310 5 4 := ⟨by decide, by decide, xw 316 (by decide +kernel) rfl⟩
/-! BrailleDesk.focus -/
def fX10_focus (a0 : Nat) (h : hp) : Option Int32 :=
  (oGR 9 3 (some a0) h).bind fun x1 =>
  (oGR 4 6 x1 h).bind fun x2 =>
  if x2 = none then
  (some ((-1 : Int32)))
  else
  (oGI 1 0 x2 h).bind fun x3 =>
  some (x3)
theorem tX10_focus {G : gG} (a0 : Nat) (h : hp) (Q : hQ) (hF : okB (fX10_focus a0 h) (pP gI Q h)) : gS G mX10_focus 0 0 0 [sr (some a0)] h Q := by
  delta fX10_focus at hF
  refine gS_at [some (sr (some a0)), none] pl_X10 rfl (Nat.le_of_ble_eq_true rfl) rfl ?_
  refine v_aload_n (pc := 0) (i := 0) dX10_focus_0 rfl rfl ?_
  refine s_getR (pc := 1) dX10_focus_1 flX10_35 rfl hF (fun x1 hF => ?_)
  refine s_getR (pc := 4) dX10_focus_4 flX10_240 rfl hF (fun x2 hF => ?_)
  refine v_astore_n (pc := 7) (i := 1) [some (sr (some a0)), some (sr x2)] dX10_focus_7 rfl (by decide) rfl rfl ?_
  refine v_aload_n (pc := 8) (i := 1) dX10_focus_8 rfl rfl ?_
  refine s_ifnonnull (pc := 9) 16 dX10_focus_9 rfl hF (fun hF => ?_) (fun hF => ?_)
  · refine v_aload_n (pc := 16) (i := 1) dX10_focus_16 rfl rfl ?_
    refine s_getI (pc := 17) dX10_focus_17 flX10_103 rfl hF (fun x3 hF => ?_)
    exact v_iret (pc := 20) dX10_focus_20 rfl rfl (okr hF fun q => q)
  refine v_iconst (pc := 12) (v := (-1 : Int32)) dX10_focus_12 rfl ?_
  refine v_goto (pc := 13) 20 dX10_focus_13 rfl ?_
  exact v_iret (pc := 20) dX10_focus_20 rfl rfl (okr hF fun q => q)
/-! BrailleDesk.isTyping -/
def fX10_isTyping (a0 : Nat) (h : hp) : Option Int32 :=
  (oGR 9 3 (some a0) h).bind fun x1 =>
  (oGR 4 3 x1 h).bind fun x2 =>
  (oGI 7 0 x2 h).bind fun x3 =>
  (oBo x3).bind fun _ =>
  some (x3)
theorem tX10_isTyping {G : gG} (a0 : Nat) (h : hp) (Q : hQ) (hF : okB (fX10_isTyping a0 h) (pP gI Q h)) : gS G mX10_isTyping 0 0 0 [sr (some a0)] h Q := by
  delta fX10_isTyping at hF
  refine gS_at [some (sr (some a0))] pl_X10 rfl (Nat.le_of_ble_eq_true rfl) rfl ?_
  refine v_aload_n (pc := 0) (i := 0) dX10_isTyping_0 rfl rfl ?_
  refine s_getR (pc := 1) dX10_isTyping_1 flX10_35 rfl hF (fun x1 hF => ?_)
  refine s_getR (pc := 4) dX10_isTyping_4 flX10_243 rfl hF (fun x2 hF => ?_)
  refine s_getI (pc := 7) dX10_isTyping_7 flX10_247 rfl hF (fun x3 hF => ?_)
  exact s_zret (pc := 10) dX10_isTyping_10 rfl hF (fun hF => (okr hF fun q => q))
/-! BrailleDesk.offset -/
def fX10_offset (a0 : Nat) (h : hp) : Option Int32 :=
  (oGR 9 3 (some a0) h).bind fun x1 =>
  (oGR 4 2 x1 h).bind fun x2 =>
  (oGI 2 2 x2 h).bind fun x3 =>
  some (x3)
theorem tX10_offset {G : gG} (a0 : Nat) (h : hp) (Q : hQ) (hF : okB (fX10_offset a0 h) (pP gI Q h)) : gS G mX10_offset 0 0 0 [sr (some a0)] h Q := by
  delta fX10_offset at hF
  refine gS_at [some (sr (some a0))] pl_X10 rfl (Nat.le_of_ble_eq_true rfl) rfl ?_
  refine v_aload_n (pc := 0) (i := 0) dX10_offset_0 rfl rfl ?_
  refine s_getR (pc := 1) dX10_offset_1 flX10_35 rfl hF (fun x1 hF => ?_)
  refine s_getR (pc := 4) dX10_offset_4 flX10_252 rfl hF (fun x2 hF => ?_)
  refine s_getI (pc := 7) dX10_offset_7 flX10_256 rfl hF (fun x3 hF => ?_)
  exact v_iret (pc := 10) dX10_offset_10 rfl rfl (okr hF fun q => q)
/-! BrailleDesk.lineLength -/
def fX10_lineLength (a0 : Nat) (h : hp) : Option Int32 :=
  (oGR 9 3 (some a0) h).bind fun x1 =>
  (oGR 4 2 x1 h).bind fun x2 =>
  (oGR 2 0 x2 h).bind fun x3 =>
  (oOb 0 x3 h).bind fun b =>
  (fX1_size b h).bind fun x4 =>
  some (x4)
theorem tX10_lineLength {G : gG} (a0 : Nat) (h : hp) (Q : hQ) (hF : okB (fX10_lineLength a0 h) (pP gI Q h)) : gS G mX10_lineLength 1 0 0 [sr (some a0)] h Q := by
  delta fX10_lineLength at hF
  refine gS_at [some (sr (some a0))] pl_X10 rfl (Nat.le_of_ble_eq_true rfl) rfl ?_
  refine v_aload_n (pc := 0) (i := 0) dX10_lineLength_0 rfl rfl ?_
  refine s_getR (pc := 1) dX10_lineLength_1 flX10_35 rfl hF (fun x1 hF => ?_)
  refine s_getR (pc := 4) dX10_lineLength_4 flX10_252 rfl hF (fun x2 hF => ?_)
  refine s_getR (pc := 7) dX10_lineLength_7 flX10_261 rfl hF (fun x3 hF => ?_)
  refine cp_V (pc := 10) gI (as := []) (st := []) (ci := 0) (k := 0) (n := 0) dX10_lineLength_10 lkX10_59 caX1_size cvX1_size rfl (by decide) rfl (fun b Q1 hq => tX1_size b h Q1 hq) ⟨by decide, by decide⟩ (Nat.le_of_ble_eq_true rfl) rfl hF (fun x4 hF => ?_)
  show gV G mX10_lineLength 1 Q 13 [some (sr (some a0))] [si x4] (0) (0) h
  exact v_iret (pc := 13) dX10_lineLength_13 rfl rfl (okr hF fun q => q)
/-! BrailleDesk.refuseNoPin -/
def fX10_refuseNoPin (a0 : Int32) : Option (Unit ⊕ String) :=
  if a0 < 0 then
  (some (.inr "java/lang/IndexOutOfBoundsException"))
  else
  if a0 < (10 : Int32) then
  (some (.inl ()))
  else
  some (.inr "java/lang/IndexOutOfBoundsException")
theorem tX10_refuseNoPin {G : gG} (a0 : Int32) (h : hp) (Q : hQ) (hF : okB (fX10_refuseNoPin a0) (pC gU Q h)) : gS G mX10_refuseNoPin 6 1 6 [si a0] h Q := by
  delta fX10_refuseNoPin at hF
  refine gS_at [some (si a0)] pl_X10 rfl (Nat.le_of_ble_eq_true rfl) rfl ?_
  refine v_iload_n (pc := 0) (i := 0) dX10_refuseNoPin_0 rfl rfl ?_
  refine v_if_lt (pc := 1) 10 dX10_refuseNoPin_1 rfl (fun hc => ?_) (fun hc => ?_)
  · replace hF := (okB_if hF).1 hc
    exact v_throwW (pc := 10) (k := 0) (n := 0) 40 dX10_refuseNoPin_10 dX10_refuseNoPin_13 dX10_refuseNoPin_14 dX10_refuseNoPin_17 dX10_refuseNoPin_20 rfl tfit_IndexOutOfBoundsException tnames twX10_185_189 rfl (by decide) (Nat.le_of_ble_eq_true rfl) rfl (okr hF fun q => q)
  replace hF := (okB_if hF).2 hc
  refine v_iload_n (pc := 4) (i := 0) dX10_refuseNoPin_4 rfl rfl ?_
  refine v_bipush (pc := 5) (v := (10 : Int32)) dX10_refuseNoPin_5 rfl ?_
  refine v_icmp_lt (pc := 7) 21 dX10_refuseNoPin_7 rfl (fun hc => ?_) (fun hc => ?_)
  · replace hF := (okB_if hF).1 hc
    exact v_ret (pc := 21) dX10_refuseNoPin_21 rfl (okr hF fun q => q)
  replace hF := (okB_if hF).2 hc
  exact v_throwW (pc := 10) (k := 0) (n := 0) 40 dX10_refuseNoPin_10 dX10_refuseNoPin_13 dX10_refuseNoPin_14 dX10_refuseNoPin_17 dX10_refuseNoPin_20 rfl tfit_IndexOutOfBoundsException tnames twX10_185_189 rfl (by decide) (Nat.le_of_ble_eq_true rfl) rfl (okr hF fun q => q)
/-! BrailleDesk.pin -/
def fX10_pin (a0 : Nat) (a1 : Int32) (h : hp) : Option (Int32 ⊕ String) :=
  oC (fX10_refuseNoPin a1) (fun E => .inr E) fun _ =>
  (oGR 9 3 (some a0) h).bind fun x2 =>
  (oGR 4 2 x2 h).bind fun x3 =>
  (oOb 2 x3 h).bind fun b =>
  (fX3_cell b a1 h).bind fun x4 =>
  some (.inl x4)
theorem tX10_pin {G : gG} (a0 : Nat) (a1 : Int32) (h : hp) (Q : hQ) (hF : okB (fX10_pin a0 a1 h) (pC gI Q h)) : gS G mX10_pin 7 1 6 [sr (some a0), si a1] h Q := by
  delta fX10_pin at hF
  refine gS_at [some (sr (some a0)), some (si a1)] pl_X10 rfl (Nat.le_of_ble_eq_true rfl) rfl ?_
  refine v_iload_n (pc := 0) (i := 1) dX10_pin_0 rfl rfl ?_
  refine ct_S (pc := 1) gU (as := [si a1]) (st := []) (k := 0) (n := 0) dX10_pin_1 lkX10_264 caX10_refuseNoPin csX10_refuseNoPin rfl (fun Q1 hq => tX10_refuseNoPin a1 h Q1 hq) ⟨by decide, by decide⟩ (Nat.le_of_ble_eq_true rfl) rfl hF (fun E hp => hp) (fun x1 hF => ?_)
  show gV G mX10_pin 7 Q 4 [some (sr (some a0)), some (si a1)] [] (0) (0) h
  refine v_aload_n (pc := 4) (i := 0) dX10_pin_4 rfl rfl ?_
  refine s_getR (pc := 5) dX10_pin_5 flX10_35 rfl hF (fun x2 hF => ?_)
  refine s_getR (pc := 8) dX10_pin_8 flX10_252 rfl hF (fun x3 hF => ?_)
  refine v_iload_n (pc := 11) (i := 1) dX10_pin_11 rfl rfl ?_
  refine cp_V (pc := 12) gI (as := [si a1]) (st := []) (ci := 2) (k := 0) (n := 0) dX10_pin_12 lkX10_267 caX3_cell cvX3_cell rfl (by decide) rfl (fun b Q1 hq => tX3_cell b a1 h Q1 hq) ⟨by decide, by decide⟩ (Nat.le_of_ble_eq_true rfl) rfl hF (fun x4 hF => ?_)
  show gV G mX10_pin 7 Q 15 [some (sr (some a0)), some (si a1)] [si x4] (0) (0) h
  exact v_iret (pc := 15) dX10_pin_15 rfl rfl (okr hF fun q => q)
/-! BrailleDesk.pinAnew -/
def fX10_pinAnew (a0 : Nat) (a1 : Int32) (h : hp) : Option ((Int32 ⊕ String) × hp) :=
  oC (fX10_refuseNoPin a1) (fun E => (.inr E, h)) fun _ =>
  (oGR 9 3 (some a0) h).bind fun x2 =>
  (oOb 4 x2 h).bind fun b =>
  o2 (fX5_cellAnew b a1 h) fun x3 h4 =>
  some ((.inl x3, h4))
theorem tX10_pinAnew {G : gG} (a0 : Nat) (a1 : Int32) (h : hp) (Q : hQ) (hF : okB (fX10_pinAnew a0 a1 h) (pX gI Q)) : gS G mX10_pinAnew 8 1 6 [sr (some a0), si a1] h Q := by
  delta fX10_pinAnew at hF
  refine gS_at [some (sr (some a0)), some (si a1)] pl_X10 rfl (Nat.le_of_ble_eq_true rfl) rfl ?_
  refine v_iload_n (pc := 0) (i := 1) dX10_pinAnew_0 rfl rfl ?_
  refine ct_S (pc := 1) gU (as := [si a1]) (st := []) (k := 0) (n := 0) dX10_pinAnew_1 lkX10_264 caX10_refuseNoPin csX10_refuseNoPin rfl (fun Q1 hq => tX10_refuseNoPin a1 h Q1 hq) ⟨by decide, by decide⟩ (Nat.le_of_ble_eq_true rfl) rfl hF (fun E hp => hp) (fun x1 hF => ?_)
  show gV G mX10_pinAnew 8 Q 4 [some (sr (some a0)), some (si a1)] [] (0) (0) h
  refine v_aload_n (pc := 4) (i := 0) dX10_pinAnew_4 rfl rfl ?_
  refine s_getR (pc := 5) dX10_pinAnew_5 flX10_35 rfl hF (fun x2 hF => ?_)
  refine v_iload_n (pc := 8) (i := 1) dX10_pinAnew_8 rfl rfl ?_
  refine ch_V (pc := 9) gI (as := [si a1]) (st := []) (ci := 4) (k := 0) (n := 0) dX10_pinAnew_9 lkX10_270 caX5_cellAnew cvX5_cellAnew rfl (by decide) rfl (fun b Q1 hq => tX5_cellAnew b a1 h Q1 hq) ⟨by decide, by decide⟩ (Nat.le_of_ble_eq_true rfl) rfl hF (fun x3 h4 hF => ?_)
  show gV G mX10_pinAnew 8 Q 12 [some (sr (some a0)), some (si a1)] [si x3] (0) (0) h4
  exact v_iret (pc := 12) dX10_pinAnew_12 rfl rfl (okr hF fun q => q)
/-! BrailleDesk.wordsOf -/
def fX10_wordsOf (a0 : Nat) (a1 : Option Nat) (h : hp) : Option ((Option Nat ⊕ String) × hp) :=
  (oOb 1 a1 h).bind fun b =>
  (fX2_isShownNow b h).bind fun x1 =>
  if x1 = 0 then
  (some ((.inr "java/lang/IllegalStateException", h)))
  else
  (oGR 9 3 (some a0) h).bind fun x2 =>
  (oOb 4 x2 h).bind fun b =>
  o2 (fX5_wordsOf b a1 h) fun x3 h4 =>
  some ((.inl x3, h4))
theorem tX10_wordsOf {G : gG} (a0 : Nat) (a1 : Option Nat) (h : hp) (Q : hQ) (hF : okB (fX10_wordsOf a0 a1 h) (pX gR Q)) : gS G mX10_wordsOf 7 1 6 [sr (some a0), sr a1] h Q := by
  delta fX10_wordsOf at hF
  refine gS_at [some (sr (some a0)), some (sr a1)] pl_X10 rfl (Nat.le_of_ble_eq_true rfl) rfl ?_
  refine v_aload_n (pc := 0) (i := 1) dX10_wordsOf_0 rfl rfl ?_
  refine cp_V (pc := 1) gI (as := []) (st := []) (ci := 1) (k := 1) (n := 6) dX10_wordsOf_1 lkX10_110 caX2_isShownNow cvX2_isShownNow rfl (by decide) rfl (fun b Q1 hq => tX2_isShownNow b h Q1 hq) ⟨by decide, by decide⟩ (Nat.le_of_ble_eq_true rfl) rfl hF (fun x1 hF => ?_)
  show gV G mX10_wordsOf 7 Q 4 [some (sr (some a0)), some (sr a1)] [si x1] (1) (6) h
  refine v_if_ne (pc := 4) 18 dX10_wordsOf_4 rfl (fun hc => ?_) (fun hc => ?_)
  · replace hF := (okB_if hF).2 hc
    refine v_aload_n (pc := 18) (i := 0) dX10_wordsOf_18 rfl rfl ?_
    refine s_getR (pc := 19) dX10_wordsOf_19 flX10_35 rfl hF (fun x2 hF => ?_)
    refine v_aload_n (pc := 22) (i := 1) dX10_wordsOf_22 rfl rfl ?_
    refine ch_V (pc := 23) gR (as := [sr a1]) (st := []) (ci := 4) (k := 1) (n := 6) dX10_wordsOf_23 lkX10_333 caX5_wordsOf cvX5_wordsOf rfl (by decide) rfl (fun b Q1 hq => tX5_wordsOf b a1 h Q1 hq) ⟨by decide, by decide⟩ (Nat.le_of_ble_eq_true rfl) rfl hF (fun x3 h4 hF => ?_)
    show gV G mX10_wordsOf 7 Q 26 [some (sr (some a0)), some (sr a1)] [sr x3] (1) (6) h4
    exact v_aret (pc := 26) dX10_wordsOf_26 rfl (Or.inl ⟨_, rfl⟩) (okr hF fun q => q)
  replace hF := (okB_if hF).1 hc
  exact v_throwW (pc := 7) (k := 0) (n := 0) 41 dX10_wordsOf_7 dX10_wordsOf_10 dX10_wordsOf_11 dX10_wordsOf_14 dX10_wordsOf_17 rfl tfit_IllegalStateException tnames twX10_63_67 rfl (by decide) (Nat.le_of_ble_eq_true rfl) rfl (okr hF fun q => q)
/-! BrailleDesk.wordsLength -/
def fX10_wordsLength (a0 : Nat) (a1 : Int32) (h : hp) : Option ((Int32 ⊕ String) × hp) :=
  (oOb 9 (some a0) h).bind fun b =>
  oC (fX10_existing b a1 h) (fun E => (.inr E, h)) fun x1 =>
  (oOb 9 (some a0) h).bind fun b =>
  oX (fX10_wordsOf b x1 h) (fun E hE => (.inr E, hE)) fun x2 h3 =>
  (oOb 0 x2 h3).bind fun b =>
  (fX1_size b h3).bind fun x4 =>
  some ((.inl x4, h3))
theorem tX10_wordsLength {G : gG} (a0 : Nat) (a1 : Int32) (h : hp) (Q : hQ) (hF : okB (fX10_wordsLength a0 a1 h) (pX gI Q)) : gS G mX10_wordsLength 8 2 12 [sr (some a0), si a1] h Q := by
  delta fX10_wordsLength at hF
  refine gS_at [some (sr (some a0)), some (si a1)] pl_X10 rfl (Nat.le_of_ble_eq_true rfl) rfl ?_
  refine v_aload_n (pc := 0) (i := 0) dX10_wordsLength_0 rfl rfl ?_
  refine v_aload_n (pc := 1) (i := 0) dX10_wordsLength_1 rfl rfl ?_
  refine v_iload_n (pc := 2) (i := 1) dX10_wordsLength_2 rfl rfl ?_
  refine ct_V (pc := 3) gR (as := [si a1]) (st := [sr (some a0)]) (ci := 9) (k := 1) (n := 6) dX10_wordsLength_3 lkX10_71 caX10_existing cvX10_existing rfl (by decide) rfl (fun b Q1 hq => tX10_existing b a1 h Q1 hq) ⟨by decide, by decide⟩ (Nat.le_of_ble_eq_true rfl) rfl hF (fun E hp => hp) (fun x1 hF => ?_)
  show gV G mX10_wordsLength 8 Q 6 [some (sr (some a0)), some (si a1)] [sr x1, sr (some a0)] (1) (6) h
  refine cx_V (pc := 6) gR (as := [sr x1]) (st := []) (ci := 9) (k := 0) (n := 0) dX10_wordsLength_6 lkX10_273 caX10_wordsOf cvX10_wordsOf rfl (by decide) rfl (fun b Q1 hq => tX10_wordsOf b x1 h Q1 hq) ⟨by decide, by decide⟩ (Nat.le_of_ble_eq_true rfl) rfl hF (fun E h1 hp => hp) (fun x2 h3 hF => ?_)
  show gV G mX10_wordsLength 8 Q 9 [some (sr (some a0)), some (si a1)] [sr x2] (0) (0) h3
  refine cp_V (pc := 9) gI (as := []) (st := []) (ci := 0) (k := 0) (n := 0) dX10_wordsLength_9 lkX10_59 caX1_size cvX1_size rfl (by decide) rfl (fun b Q1 hq => tX1_size b h3 Q1 hq) ⟨by decide, by decide⟩ (Nat.le_of_ble_eq_true rfl) rfl hF (fun x4 hF => ?_)
  show gV G mX10_wordsLength 8 Q 12 [some (sr (some a0)), some (si a1)] [si x4] (0) (0) h3
  exact v_iret (pc := 12) dX10_wordsLength_12 rfl rfl (okr hF fun q => q)
/-! BrailleDesk.wordsAt -/
def fX10_wordsAt (a0 : Nat) (a1 : Int32) (a2 : Int32) (h : hp) : Option ((Int32 ⊕ String) × hp) :=
  (oOb 9 (some a0) h).bind fun b =>
  oC (fX10_existing b a1 h) (fun E => (.inr E, h)) fun x1 =>
  (oOb 9 (some a0) h).bind fun b =>
  oX (fX10_wordsOf b x1 h) (fun E hE => (.inr E, hE)) fun x2 h3 =>
  oC (fX10_codeAt x2 a2 h3) (fun E => (.inr E, h3)) fun x4 =>
  some ((.inl x4, h3))
theorem tX10_wordsAt {G : gG} (a0 : Nat) (a1 : Int32) (a2 : Int32) (h : hp) (Q : hQ) (hF : okB (fX10_wordsAt a0 a1 a2 h) (pX gI Q)) : gS G mX10_wordsAt 8 3 18 [sr (some a0), si a1, si a2] h Q := by
  delta fX10_wordsAt at hF
  refine gS_at [some (sr (some a0)), some (si a1), some (si a2)] pl_X10 rfl (Nat.le_of_ble_eq_true rfl) rfl ?_
  refine v_aload_n (pc := 0) (i := 0) dX10_wordsAt_0 rfl rfl ?_
  refine v_aload_n (pc := 1) (i := 0) dX10_wordsAt_1 rfl rfl ?_
  refine v_iload_n (pc := 2) (i := 1) dX10_wordsAt_2 rfl rfl ?_
  refine ct_V (pc := 3) gR (as := [si a1]) (st := [sr (some a0)]) (ci := 9) (k := 2) (n := 12) dX10_wordsAt_3 lkX10_71 caX10_existing cvX10_existing rfl (by decide) rfl (fun b Q1 hq => tX10_existing b a1 h Q1 hq) ⟨by decide, by decide⟩ (Nat.le_of_ble_eq_true rfl) rfl hF (fun E hp => hp) (fun x1 hF => ?_)
  show gV G mX10_wordsAt 8 Q 6 [some (sr (some a0)), some (si a1), some (si a2)] [sr x1, sr (some a0)] (2) (12) h
  refine cx_V (pc := 6) gR (as := [sr x1]) (st := []) (ci := 9) (k := 1) (n := 6) dX10_wordsAt_6 lkX10_273 caX10_wordsOf cvX10_wordsOf rfl (by decide) rfl (fun b Q1 hq => tX10_wordsOf b x1 h Q1 hq) ⟨by decide, by decide⟩ (Nat.le_of_ble_eq_true rfl) rfl hF (fun E h1 hp => hp) (fun x2 h3 hF => ?_)
  show gV G mX10_wordsAt 8 Q 9 [some (sr (some a0)), some (si a1), some (si a2)] [sr x2] (1) (6) h3
  refine v_iload_n (pc := 9) (i := 2) dX10_wordsAt_9 rfl rfl ?_
  refine ct_S (pc := 10) gI (as := [sr x2, si a2]) (st := []) (k := 0) (n := 0) dX10_wordsAt_10 lkX10_190 caX10_codeAt csX10_codeAt rfl (fun Q1 hq => tX10_codeAt x2 a2 h3 Q1 hq) ⟨by decide, by decide⟩ (Nat.le_of_ble_eq_true rfl) rfl hF (fun E hp => hp) (fun x4 hF => ?_)
  show gV G mX10_wordsAt 8 Q 13 [some (sr (some a0)), some (si a1), some (si a2)] [si x4] (0) (0) h3
  exact v_iret (pc := 13) dX10_wordsAt_13 rfl rfl (okr hF fun q => q)
/-! BrailleDesk.tick -/
def fX10_tick_B32 (c0 : Nat) (c1 : Int32) (c2 : Int32) (a : (Int32 × hp)) : Option ((Int32 × hp) ⊕ hp) :=
  if c1 ≤ a.1 then
  (some (.inr a.2))
  else
  (oGR 9 2 (some c0) a.2).bind fun x1 =>
  (oOb 5 x1 a.2).bind fun b =>
  o2 (fX6_passTick b a.2) fun _ h3 =>
  (oGR 9 1 (some c0) h3).bind fun x4 =>
  (oOb 8 x4 h3).bind fun b =>
  o2 (fX9_speak b h3) fun _ h6 =>
  some (.inl (a.1 + (1 : Int32), h6))
theorem lX10_tick_32 {G : gG} {Q : hQ} {P : hp → Prop} {k n : Nat} (c0 : Nat) (c1 : Int32) (c2 : Int32) (hJ : ∀ q : hp, P q → gV G mX10_tick 6 Q 57 [some (sr (some c0)), none, some (si c2), none] [] (k) (n) q) : ∀ (fu : Nat) (a : (Int32 × hp)), okB (itr (fX10_tick_B32 c0 c1 c2) fu a) P → gV G mX10_tick 6 Q 32 [some (sr (some c0)), some (si c1), some (si c2), some (si a.1)] [] (k) (n) a.2 :=
  lpg (X := fun (a : (Int32 × hp)) => gV G mX10_tick 6 Q 32 [some (sr (some c0)), some (si c1), some (si c2), some (si a.1)] [] (k) (n) a.2) (fun a P2 hL hE hF => by
    delta fX10_tick_B32 at hF
    refine v_iload_n (pc := 32) (i := 3) dX10_tick_32 rfl rfl ?_
    refine v_iload_n (pc := 33) (i := 1) dX10_tick_33 rfl rfl ?_
    refine v_icmp_ge (pc := 34) 57 dX10_tick_34 rfl (fun hc => ?_) (fun hc => ?_)
    · replace hF := (okB_if hF).1 hc
      exact v_lle [some (sr (some c0)), none, some (si c2), none] ⟨rfl, rfl, trivial⟩ (hJ _ (hE _ (okB_some hF)))
    replace hF := (okB_if hF).2 hc
    refine v_aload_n (pc := 37) (i := 0) dX10_tick_37 rfl rfl ?_
    refine s_getR (pc := 38) dX10_tick_38 flX10_28 rfl hF (fun x1 hF => ?_)
    refine ch_V (pc := 41) gU (as := []) (st := []) (ci := 5) (k := k) (n := n) dX10_tick_41 lkX10_282 caX6_passTick cvX6_passTick rfl (by decide) rfl (fun b Q1 hq => tX6_passTick b a.2 Q1 hq) ⟨by decide, by decide⟩ (Nat.le_of_ble_eq_true rfl) rfl hF (fun x2 h3 hF => ?_)
    show gV G mX10_tick 6 Q 44 [some (sr (some c0)), some (si c1), some (si c2), some (si a.1)] [] (k) (n) h3
    refine v_aload_n (pc := 44) (i := 0) dX10_tick_44 rfl rfl ?_
    refine s_getR (pc := 45) dX10_tick_45 flX10_19 rfl hF (fun x4 hF => ?_)
    refine ch_V (pc := 48) gU (as := []) (st := []) (ci := 8) (k := k) (n := n) dX10_tick_48 lkX10_285 caX9_speak cvX9_speak rfl (by decide) rfl (fun b Q1 hq => tX9_speak b h3 Q1 hq) ⟨by decide, by decide⟩ (Nat.le_of_ble_eq_true rfl) rfl hF (fun x5 h6 hF => ?_)
    show gV G mX10_tick 6 Q 51 [some (sr (some c0)), some (si c1), some (si c2), some (si a.1)] [] (k) (n) h6
    refine v_iinc (pc := 51) (i := 3) (a.1 + (1 : Int32)) [some (sr (some c0)), some (si c1), some (si c2), some (si (a.1 + (1 : Int32)))] dX10_tick_51 rfl rfl rfl rfl ?_
    refine v_goto (pc := 54) 32 dX10_tick_54 rfl ?_
    exact v_lle [some (sr (some c0)), some (si c1), some (si c2), some (si (a.1 + (1 : Int32)))] ⟨rfl, rfl, rfl, rfl, trivial⟩ (hL _ (okB_some hF)))
def fX10_tick (a0 : Nat) (a1 : Int32) (h : hp) : Option ((Int32 ⊕ String) × hp) :=
  if a1 < (1 : Int32) then
  (some ((.inr "java/lang/IllegalArgumentException", h)))
  else
  if a1 ≤ (50 : Int32) then
  ((oGR 9 1 (some a0) h).bind fun x1 =>
  (oGI 8 9 x1 h).bind fun x2 =>
  Option.bind (α := hp)
  (itr (fX10_tick_B32 a0 a1 x2) FU ((0 : Int32), h))
  fun q3 =>
  (oGR 9 1 (some a0) q3).bind fun x4 =>
  (oGI 8 9 x4 q3).bind fun x5 =>
  some ((.inl (x5 - x2), q3)))
  else
  some ((.inr "java/lang/IllegalArgumentException", h))
theorem tX10_tick {G : gG} (a0 : Nat) (a1 : Int32) (h : hp) (Q : hQ) (hF : okB (fX10_tick a0 a1 h) (pX gI Q)) : gS G mX10_tick 6 1 6 [sr (some a0), si a1] h Q := by
  delta fX10_tick at hF
  refine gS_at [some (sr (some a0)), some (si a1), none, none] pl_X10 rfl (Nat.le_of_ble_eq_true rfl) rfl ?_
  refine v_iload_n (pc := 0) (i := 1) dX10_tick_0 rfl rfl ?_
  refine v_iconst (pc := 1) (v := (1 : Int32)) dX10_tick_1 rfl ?_
  refine v_icmp_lt (pc := 2) 11 dX10_tick_2 rfl (fun hc => ?_) (fun hc => ?_)
  · replace hF := (okB_if hF).1 hc
    exact v_throwW (pc := 11) (k := 0) (n := 0) 42 dX10_tick_11 dX10_tick_14 dX10_tick_15 dX10_tick_18 dX10_tick_21 rfl tfit_IllegalArgumentException tnames twX10_52_56 rfl (by decide) (Nat.le_of_ble_eq_true rfl) rfl (okr hF fun q => q)
  replace hF := (okB_if hF).2 hc
  refine v_iload_n (pc := 5) (i := 1) dX10_tick_5 rfl rfl ?_
  refine v_bipush (pc := 6) (v := (50 : Int32)) dX10_tick_6 rfl ?_
  refine v_icmp_le (pc := 8) 22 dX10_tick_8 rfl (fun hc => ?_) (fun hc => ?_)
  · replace hF := (okB_if hF).1 hc
    refine v_aload_n (pc := 22) (i := 0) dX10_tick_22 rfl rfl ?_
    refine s_getR (pc := 23) dX10_tick_23 flX10_19 rfl hF (fun x1 hF => ?_)
    refine s_getI (pc := 26) dX10_tick_26 flX10_279 rfl hF (fun x2 hF => ?_)
    refine v_istore_n (pc := 29) (i := 2) [some (sr (some a0)), some (si a1), some (si x2), none] dX10_tick_29 rfl (by decide) rfl rfl ?_
    refine v_iconst (pc := 30) (v := (0 : Int32)) dX10_tick_30 rfl ?_
    refine v_istore_n (pc := 31) (i := 3) [some (sr (some a0)), some (si a1), some (si x2), some (si (0 : Int32))] dX10_tick_31 rfl (by decide) rfl rfl ?_
    refine mg (X := fun q3 => gV G mX10_tick 6 Q 57 [some (sr (some a0)), none, some (si x2), none] [] (1) (6) q3) hF (fun _ hj6 hF => v_lle [some (sr (some a0)), some (si a1), some (si x2), some (si (0 : Int32))] ⟨rfl, rfl, rfl, rfl, trivial⟩ (lX10_tick_32 a0 a1 x2 hj6 _ _ hF)) (fun q3 hF => ?_)
    refine v_aload_n (pc := 57) (i := 0) dX10_tick_57 rfl rfl ?_
    refine s_getR (pc := 58) dX10_tick_58 flX10_19 rfl hF (fun x4 hF => ?_)
    refine s_getI (pc := 61) dX10_tick_61 flX10_279 rfl hF (fun x5 hF => ?_)
    refine v_iload_n (pc := 64) (i := 2) dX10_tick_64 rfl rfl ?_
    refine v_isub (pc := 65) dX10_tick_65 ?_
    exact v_iret (pc := 66) dX10_tick_66 rfl rfl (okr hF fun q => q)
  replace hF := (okB_if hF).2 hc
  exact v_throwW (pc := 11) (k := 0) (n := 0) 42 dX10_tick_11 dX10_tick_14 dX10_tick_15 dX10_tick_18 dX10_tick_21 rfl tfit_IllegalArgumentException tnames twX10_52_56 rfl (by decide) (Nat.le_of_ble_eq_true rfl) rfl (okr hF fun q => q)
/-! BrailleDesk.time -/
def fX10_time (a0 : Nat) (h : hp) : Option Int32 :=
  (oGR 9 2 (some a0) h).bind fun x1 =>
  (oGI 5 3 x1 h).bind fun x2 =>
  some (x2)
theorem tX10_time {G : gG} (a0 : Nat) (h : hp) (Q : hQ) (hF : okB (fX10_time a0 h) (pP gI Q h)) : gS G mX10_time 0 0 0 [sr (some a0)] h Q := by
  delta fX10_time at hF
  refine gS_at [some (sr (some a0))] pl_X10 rfl (Nat.le_of_ble_eq_true rfl) rfl ?_
  refine v_aload_n (pc := 0) (i := 0) dX10_time_0 rfl rfl ?_
  refine s_getR (pc := 1) dX10_time_1 flX10_28 rfl hF (fun x1 hF => ?_)
  refine s_getI (pc := 4) dX10_time_4 flX10_288 rfl hF (fun x2 hF => ?_)
  exact v_iret (pc := 7) dX10_time_7 rfl rfl (okr hF fun q => q)
/-! BrailleDesk.speaking -/
def fX10_speaking (a0 : Nat) (h : hp) : Option Int32 :=
  (oGR 9 1 (some a0) h).bind fun x1 =>
  (oGI 8 7 x1 h).bind fun x2 =>
  some (x2)
theorem tX10_speaking {G : gG} (a0 : Nat) (h : hp) (Q : hQ) (hF : okB (fX10_speaking a0 h) (pP gI Q h)) : gS G mX10_speaking 0 0 0 [sr (some a0)] h Q := by
  delta fX10_speaking at hF
  refine gS_at [some (sr (some a0))] pl_X10 rfl (Nat.le_of_ble_eq_true rfl) rfl ?_
  refine v_aload_n (pc := 0) (i := 0) dX10_speaking_0 rfl rfl ?_
  refine s_getR (pc := 1) dX10_speaking_1 flX10_19 rfl hF (fun x1 hF => ?_)
  refine s_getI (pc := 4) dX10_speaking_4 flX10_291 rfl hF (fun x2 hF => ?_)
  exact v_iret (pc := 7) dX10_speaking_7 rfl rfl (okr hF fun q => q)
/-! BrailleDesk.left -/
def fX10_left (a0 : Nat) (h : hp) : Option Int32 :=
  (oGR 9 1 (some a0) h).bind fun x1 =>
  (oOb 8 x1 h).bind fun b =>
  (fX9_unspoken b h).bind fun x2 =>
  some (x2)
theorem tX10_left {G : gG} (a0 : Nat) (h : hp) (Q : hQ) (hF : okB (fX10_left a0 h) (pP gI Q h)) : gS G mX10_left 2 0 0 [sr (some a0)] h Q := by
  delta fX10_left at hF
  refine gS_at [some (sr (some a0))] pl_X10 rfl (Nat.le_of_ble_eq_true rfl) rfl ?_
  refine v_aload_n (pc := 0) (i := 0) dX10_left_0 rfl rfl ?_
  refine s_getR (pc := 1) dX10_left_1 flX10_19 rfl hF (fun x1 hF => ?_)
  refine cp_V (pc := 4) gI (as := []) (st := []) (ci := 8) (k := 0) (n := 0) dX10_left_4 lkX10_294 caX9_unspoken cvX9_unspoken rfl (by decide) rfl (fun b Q1 hq => tX9_unspoken b h Q1 hq) ⟨by decide, by decide⟩ (Nat.le_of_ble_eq_true rfl) rfl hF (fun x2 hF => ?_)
  show gV G mX10_left 2 Q 7 [some (sr (some a0))] [si x2] (0) (0) h
  exact v_iret (pc := 7) dX10_left_7 rfl rfl (okr hF fun q => q)
/-! BrailleDesk.waiting -/
def fX10_waiting (a0 : Nat) (a1 : Int32) (h : hp) : Option (Int32 ⊕ String) :=
  if a1 < 0 then
  (some (.inr "java/lang/IllegalArgumentException"))
  else
  if a1 ≤ (2 : Int32) then
  ((oGR 9 1 (some a0) h).bind fun x1 =>
  (oOb 8 x1 h).bind fun b =>
  (fX9_countWaiting b a1 h).bind fun x2 =>
  some (.inl x2))
  else
  some (.inr "java/lang/IllegalArgumentException")
theorem tX10_waiting {G : gG} (a0 : Nat) (a1 : Int32) (h : hp) (Q : hQ) (hF : okB (fX10_waiting a0 a1 h) (pC gI Q h)) : gS G mX10_waiting 6 1 6 [sr (some a0), si a1] h Q := by
  delta fX10_waiting at hF
  refine gS_at [some (sr (some a0)), some (si a1)] pl_X10 rfl (Nat.le_of_ble_eq_true rfl) rfl ?_
  refine v_iload_n (pc := 0) (i := 1) dX10_waiting_0 rfl rfl ?_
  refine v_if_lt (pc := 1) 9 dX10_waiting_1 rfl (fun hc => ?_) (fun hc => ?_)
  · replace hF := (okB_if hF).1 hc
    exact v_throwW (pc := 9) (k := 0) (n := 0) 43 dX10_waiting_9 dX10_waiting_12 dX10_waiting_13 dX10_waiting_16 dX10_waiting_19 rfl tfit_IllegalArgumentException tnames twX10_52_56 rfl (by decide) (Nat.le_of_ble_eq_true rfl) rfl (okr hF fun q => q)
  replace hF := (okB_if hF).2 hc
  refine v_iload_n (pc := 4) (i := 1) dX10_waiting_4 rfl rfl ?_
  refine v_iconst (pc := 5) (v := (2 : Int32)) dX10_waiting_5 rfl ?_
  refine v_icmp_le (pc := 6) 20 dX10_waiting_6 rfl (fun hc => ?_) (fun hc => ?_)
  · replace hF := (okB_if hF).1 hc
    refine v_aload_n (pc := 20) (i := 0) dX10_waiting_20 rfl rfl ?_
    refine s_getR (pc := 21) dX10_waiting_21 flX10_19 rfl hF (fun x1 hF => ?_)
    refine v_iload_n (pc := 24) (i := 1) dX10_waiting_24 rfl rfl ?_
    refine cp_V (pc := 25) gI (as := [si a1]) (st := []) (ci := 8) (k := 1) (n := 6) dX10_waiting_25 lkX10_299 caX9_countWaiting cvX9_countWaiting rfl (by decide) rfl (fun b Q1 hq => tX9_countWaiting b a1 h Q1 hq) ⟨by decide, by decide⟩ (Nat.le_of_ble_eq_true rfl) rfl hF (fun x2 hF => ?_)
    show gV G mX10_waiting 6 Q 28 [some (sr (some a0)), some (si a1)] [si x2] (1) (6) h
    exact v_iret (pc := 28) dX10_waiting_28 rfl rfl (okr hF fun q => q)
  replace hF := (okB_if hF).2 hc
  exact v_throwW (pc := 9) (k := 0) (n := 0) 43 dX10_waiting_9 dX10_waiting_12 dX10_waiting_13 dX10_waiting_16 dX10_waiting_19 rfl tfit_IllegalArgumentException tnames twX10_52_56 rfl (by decide) (Nat.le_of_ble_eq_true rfl) rfl (okr hF fun q => q)
/-! BrailleDesk.heard -/
def fX10_heard (a0 : Nat) (h : hp) : Option Int32 :=
  (oGR 9 1 (some a0) h).bind fun x1 =>
  (oGI 8 9 x1 h).bind fun x2 =>
  some (x2)
theorem tX10_heard {G : gG} (a0 : Nat) (h : hp) (Q : hQ) (hF : okB (fX10_heard a0 h) (pP gI Q h)) : gS G mX10_heard 0 0 0 [sr (some a0)] h Q := by
  delta fX10_heard at hF
  refine gS_at [some (sr (some a0))] pl_X10 rfl (Nat.le_of_ble_eq_true rfl) rfl ?_
  refine v_aload_n (pc := 0) (i := 0) dX10_heard_0 rfl rfl ?_
  refine s_getR (pc := 1) dX10_heard_1 flX10_19 rfl hF (fun x1 hF => ?_)
  refine s_getI (pc := 4) dX10_heard_4 flX10_279 rfl hF (fun x2 hF => ?_)
  exact v_iret (pc := 7) dX10_heard_7 rfl rfl (okr hF fun q => q)
/-! BrailleDesk.heardAt -/
def fX10_heardAt (a0 : Nat) (a1 : Int32) (h : hp) : Option (Int32 ⊕ String) :=
  if a1 < 0 then
  (some (.inr "java/lang/IndexOutOfBoundsException"))
  else
  if (100 : Int32) ≤ a1 then
  (some (.inr "java/lang/IndexOutOfBoundsException"))
  else
  (oGR 9 1 (some a0) h).bind fun x1 =>
  (oGI 8 9 x1 h).bind fun x2 =>
  if a1 < x2 then
  ((oGR 9 1 (some a0) h).bind fun x3 =>
  (oOb 8 x3 h).bind fun b =>
  (fX9_spokenAgo b a1 h).bind fun x4 =>
  some (.inl x4))
  else
  some (.inr "java/lang/IndexOutOfBoundsException")
theorem tX10_heardAt {G : gG} (a0 : Nat) (a1 : Int32) (h : hp) (Q : hQ) (hF : okB (fX10_heardAt a0 a1 h) (pC gI Q h)) : gS G mX10_heardAt 6 1 6 [sr (some a0), si a1] h Q := by
  delta fX10_heardAt at hF
  refine gS_at [some (sr (some a0)), some (si a1)] pl_X10 rfl (Nat.le_of_ble_eq_true rfl) rfl ?_
  refine v_iload_n (pc := 0) (i := 1) dX10_heardAt_0 rfl rfl ?_
  refine v_if_lt (pc := 1) 21 dX10_heardAt_1 rfl (fun hc => ?_) (fun hc => ?_)
  · replace hF := (okB_if hF).1 hc
    exact v_throwW (pc := 21) (k := 0) (n := 0) 44 dX10_heardAt_21 dX10_heardAt_24 dX10_heardAt_25 dX10_heardAt_28 dX10_heardAt_31 rfl tfit_IndexOutOfBoundsException tnames twX10_185_189 rfl (by decide) (Nat.le_of_ble_eq_true rfl) rfl (okr hF fun q => q)
  replace hF := (okB_if hF).2 hc
  refine v_iload_n (pc := 4) (i := 1) dX10_heardAt_4 rfl rfl ?_
  refine v_bipush (pc := 5) (v := (100 : Int32)) dX10_heardAt_5 rfl ?_
  refine v_icmp_ge (pc := 7) 21 dX10_heardAt_7 rfl (fun hc => ?_) (fun hc => ?_)
  · replace hF := (okB_if hF).1 hc
    exact v_throwW (pc := 21) (k := 0) (n := 0) 44 dX10_heardAt_21 dX10_heardAt_24 dX10_heardAt_25 dX10_heardAt_28 dX10_heardAt_31 rfl tfit_IndexOutOfBoundsException tnames twX10_185_189 rfl (by decide) (Nat.le_of_ble_eq_true rfl) rfl (okr hF fun q => q)
  replace hF := (okB_if hF).2 hc
  refine v_iload_n (pc := 10) (i := 1) dX10_heardAt_10 rfl rfl ?_
  refine v_aload_n (pc := 11) (i := 0) dX10_heardAt_11 rfl rfl ?_
  refine s_getR (pc := 12) dX10_heardAt_12 flX10_19 rfl hF (fun x1 hF => ?_)
  refine s_getI (pc := 15) dX10_heardAt_15 flX10_279 rfl hF (fun x2 hF => ?_)
  refine v_icmp_lt (pc := 18) 32 dX10_heardAt_18 rfl (fun hc => ?_) (fun hc => ?_)
  · replace hF := (okB_if hF).1 hc
    refine v_aload_n (pc := 32) (i := 0) dX10_heardAt_32 rfl rfl ?_
    refine s_getR (pc := 33) dX10_heardAt_33 flX10_19 rfl hF (fun x3 hF => ?_)
    refine v_iload_n (pc := 36) (i := 1) dX10_heardAt_36 rfl rfl ?_
    refine cp_V (pc := 37) gI (as := [si a1]) (st := []) (ci := 8) (k := 1) (n := 6) dX10_heardAt_37 lkX10_304 caX9_spokenAgo cvX9_spokenAgo rfl (by decide) rfl (fun b Q1 hq => tX9_spokenAgo b a1 h Q1 hq) ⟨by decide, by decide⟩ (Nat.le_of_ble_eq_true rfl) rfl hF (fun x4 hF => ?_)
    show gV G mX10_heardAt 6 Q 40 [some (sr (some a0)), some (si a1)] [si x4] (1) (6) h
    exact v_iret (pc := 40) dX10_heardAt_40 rfl rfl (okr hF fun q => q)
  replace hF := (okB_if hF).2 hc
  exact v_throwW (pc := 21) (k := 0) (n := 0) 44 dX10_heardAt_21 dX10_heardAt_24 dX10_heardAt_25 dX10_heardAt_28 dX10_heardAt_31 rfl tfit_IndexOutOfBoundsException tnames twX10_185_189 rfl (by decide) (Nat.le_of_ble_eq_true rfl) rfl (okr hF fun q => q)
/-! BrailleDesk.dropped -/
def fX10_dropped (a0 : Nat) (h : hp) : Option Int32 :=
  (oGR 9 1 (some a0) h).bind fun x1 =>
  (oGI 8 10 x1 h).bind fun x2 =>
  some (x2)
theorem tX10_dropped {G : gG} (a0 : Nat) (h : hp) (Q : hQ) (hF : okB (fX10_dropped a0 h) (pP gI Q h)) : gS G mX10_dropped 0 0 0 [sr (some a0)] h Q := by
  delta fX10_dropped at hF
  refine gS_at [some (sr (some a0))] pl_X10 rfl (Nat.le_of_ble_eq_true rfl) rfl ?_
  refine v_aload_n (pc := 0) (i := 0) dX10_dropped_0 rfl rfl ?_
  refine s_getR (pc := 1) dX10_dropped_1 flX10_19 rfl hF (fun x1 hF => ?_)
  refine s_getI (pc := 4) dX10_dropped_4 flX10_307 rfl hF (fun x2 hF => ?_)
  exact v_iret (pc := 7) dX10_dropped_7 rfl rfl (okr hF fun q => q)
/-! BrailleDesk.swallowed -/
def fX10_swallowed (a0 : Nat) (h : hp) : Option Int32 :=
  (oGR 9 2 (some a0) h).bind fun x1 =>
  (oGI 5 4 x1 h).bind fun x2 =>
  some (x2)
theorem tX10_swallowed {G : gG} (a0 : Nat) (h : hp) (Q : hQ) (hF : okB (fX10_swallowed a0 h) (pP gI Q h)) : gS G mX10_swallowed 0 0 0 [sr (some a0)] h Q := by
  delta fX10_swallowed at hF
  refine gS_at [some (sr (some a0))] pl_X10 rfl (Nat.le_of_ble_eq_true rfl) rfl ?_
  refine v_aload_n (pc := 0) (i := 0) dX10_swallowed_0 rfl rfl ?_
  refine s_getR (pc := 1) dX10_swallowed_1 flX10_28 rfl hF (fun x1 hF => ?_)
  refine s_getI (pc := 4) dX10_swallowed_4 flX10_310 rfl hF (fun x2 hF => ?_)
  exact v_iret (pc := 7) dX10_swallowed_7 rfl rfl (okr hF fun q => q)
