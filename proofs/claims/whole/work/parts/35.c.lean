/-! ===== methods: their functions and rows ===== -/
theorem dJ6_bitCount_0f7a4_0 : decode cJ6_bitCount_0f7a4 0 = .ok (.iload_n 0, 1) := by decide +kernel
theorem dJ6_bitCount_0f7a4_1 : decode cJ6_bitCount_0f7a4 1 = .ok (.iload_n 0, 1) := by decide +kernel
theorem dJ6_bitCount_0f7a4_2 : decode cJ6_bitCount_0f7a4 2 = .ok (.iconst 1, 1) := by decide +kernel
theorem dJ6_bitCount_0f7a4_3 : decode cJ6_bitCount_0f7a4 3 = .ok (.iushr, 1) := by decide +kernel
theorem dJ6_bitCount_0f7a4_4 : decode cJ6_bitCount_0f7a4 4 = .ok (.ldc_w 265, 3) := by decide +kernel
theorem dJ6_bitCount_0f7a4_7 : decode cJ6_bitCount_0f7a4 7 = .ok (.iand, 1) := by decide +kernel
theorem dJ6_bitCount_0f7a4_8 : decode cJ6_bitCount_0f7a4 8 = .ok (.isub, 1) := by decide +kernel
theorem dJ6_bitCount_0f7a4_9 : decode cJ6_bitCount_0f7a4 9 = .ok (.istore_n 0, 1) := by decide +kernel
theorem dJ6_bitCount_0f7a4_10 : decode cJ6_bitCount_0f7a4 10 = .ok (.iload_n 0, 1) := by decide +kernel
theorem dJ6_bitCount_0f7a4_11 : decode cJ6_bitCount_0f7a4 11 = .ok (.ldc_w 266, 3) := by decide +kernel
theorem dJ6_bitCount_0f7a4_14 : decode cJ6_bitCount_0f7a4 14 = .ok (.iand, 1) := by decide +kernel
theorem dJ6_bitCount_0f7a4_15 : decode cJ6_bitCount_0f7a4 15 = .ok (.iload_n 0, 1) := by decide +kernel
theorem dJ6_bitCount_0f7a4_16 : decode cJ6_bitCount_0f7a4 16 = .ok (.iconst 2, 1) := by decide +kernel
theorem dJ6_bitCount_0f7a4_17 : decode cJ6_bitCount_0f7a4 17 = .ok (.iushr, 1) := by decide +kernel
theorem dJ6_bitCount_0f7a4_18 : decode cJ6_bitCount_0f7a4 18 = .ok (.ldc_w 266, 3) := by decide +kernel
theorem dJ6_bitCount_0f7a4_21 : decode cJ6_bitCount_0f7a4 21 = .ok (.iand, 1) := by decide +kernel
theorem dJ6_bitCount_0f7a4_22 : decode cJ6_bitCount_0f7a4 22 = .ok (.iadd, 1) := by decide +kernel
theorem dJ6_bitCount_0f7a4_23 : decode cJ6_bitCount_0f7a4 23 = .ok (.istore_n 0, 1) := by decide +kernel
theorem dJ6_bitCount_0f7a4_24 : decode cJ6_bitCount_0f7a4 24 = .ok (.iload_n 0, 1) := by decide +kernel
theorem dJ6_bitCount_0f7a4_25 : decode cJ6_bitCount_0f7a4 25 = .ok (.iload_n 0, 1) := by decide +kernel
theorem dJ6_bitCount_0f7a4_26 : decode cJ6_bitCount_0f7a4 26 = .ok (.iconst 4, 1) := by decide +kernel
theorem dJ6_bitCount_0f7a4_27 : decode cJ6_bitCount_0f7a4 27 = .ok (.iushr, 1) := by decide +kernel
theorem dJ6_bitCount_0f7a4_28 : decode cJ6_bitCount_0f7a4 28 = .ok (.iadd, 1) := by decide +kernel
theorem dJ6_bitCount_0f7a4_29 : decode cJ6_bitCount_0f7a4 29 = .ok (.ldc_w 267, 3) := by decide +kernel
theorem dJ6_bitCount_0f7a4_32 : decode cJ6_bitCount_0f7a4 32 = .ok (.iand, 1) := by decide +kernel
theorem dJ6_bitCount_0f7a4_33 : decode cJ6_bitCount_0f7a4 33 = .ok (.istore_n 0, 1) := by decide +kernel
theorem dJ6_bitCount_0f7a4_34 : decode cJ6_bitCount_0f7a4 34 = .ok (.iload_n 0, 1) := by decide +kernel
theorem dJ6_bitCount_0f7a4_35 : decode cJ6_bitCount_0f7a4 35 = .ok (.iload_n 0, 1) := by decide +kernel
theorem dJ6_bitCount_0f7a4_36 : decode cJ6_bitCount_0f7a4 36 = .ok (.bipush 8, 2) := by decide +kernel
theorem dJ6_bitCount_0f7a4_38 : decode cJ6_bitCount_0f7a4 38 = .ok (.iushr, 1) := by decide +kernel
theorem dJ6_bitCount_0f7a4_39 : decode cJ6_bitCount_0f7a4 39 = .ok (.iadd, 1) := by decide +kernel
theorem dJ6_bitCount_0f7a4_40 : decode cJ6_bitCount_0f7a4 40 = .ok (.istore_n 0, 1) := by decide +kernel
theorem dJ6_bitCount_0f7a4_41 : decode cJ6_bitCount_0f7a4 41 = .ok (.iload_n 0, 1) := by decide +kernel
theorem dJ6_bitCount_0f7a4_42 : decode cJ6_bitCount_0f7a4 42 = .ok (.iload_n 0, 1) := by decide +kernel
theorem dJ6_bitCount_0f7a4_43 : decode cJ6_bitCount_0f7a4 43 = .ok (.bipush 16, 2) := by decide +kernel
theorem dJ6_bitCount_0f7a4_45 : decode cJ6_bitCount_0f7a4 45 = .ok (.iushr, 1) := by decide +kernel
theorem dJ6_bitCount_0f7a4_46 : decode cJ6_bitCount_0f7a4 46 = .ok (.iadd, 1) := by decide +kernel
theorem dJ6_bitCount_0f7a4_47 : decode cJ6_bitCount_0f7a4 47 = .ok (.istore_n 0, 1) := by decide +kernel
theorem dJ6_bitCount_0f7a4_48 : decode cJ6_bitCount_0f7a4 48 = .ok (.iload_n 0, 1) := by decide +kernel
theorem dJ6_bitCount_0f7a4_49 : decode cJ6_bitCount_0f7a4 49 = .ok (.bipush 63, 2) := by decide +kernel
theorem dJ6_bitCount_0f7a4_51 : decode cJ6_bitCount_0f7a4 51 = .ok (.iand, 1) := by decide +kernel
theorem dJ6_bitCount_0f7a4_52 : decode cJ6_bitCount_0f7a4 52 = .ok (.ireturn, 1) := by decide +kernel
theorem dX10_press_0 : decode cX10_press 0 = .ok (.iload_n 1, 1) := by decide +kernel
theorem dX10_press_1 : decode cX10_press 1 = .ok (.invokestatic 211, 3) := by decide +kernel
theorem dX10_press_4 : decode cX10_press 4 = .ok (.istore_n 2, 1) := by decide +kernel
theorem dX10_press_5 : decode cX10_press 5 = .ok (.aload_n 0, 1) := by decide +kernel
theorem dX10_press_6 : decode cX10_press 6 = .ok (.getfield 215, 3) := by decide +kernel
theorem dX10_press_9 : decode cX10_press 9 = .ok (.iload_n 2, 1) := by decide +kernel
theorem dX10_press_10 : decode cX10_press 10 = .ok (.iand, 1) := by decide +kernel
theorem dX10_press_11 : decode cX10_press 11 = .ok (.ifCond .eq 13, 3) := by decide +kernel
theorem dX10_press_14 : decode cX10_press 14 = .ok (.new 63, 3) := by decide +kernel
theorem dX10_press_17 : decode cX10_press 17 = .ok (.dup, 1) := by decide +kernel
theorem dX10_press_18 : decode cX10_press 18 = .ok (.ldc 218, 2) := by decide +kernel
theorem dX10_press_20 : decode cX10_press 20 = .ok (.invokespecial 67, 3) := by decide +kernel
theorem dX10_press_23 : decode cX10_press 23 = .ok (.athrow, 1) := by decide +kernel
theorem dX10_press_24 : decode cX10_press 24 = .ok (.aload_n 0, 1) := by decide +kernel
theorem dX10_press_25 : decode cX10_press 25 = .ok (.aload_n 0, 1) := by decide +kernel
theorem dX10_press_26 : decode cX10_press 26 = .ok (.getfield 215, 3) := by decide +kernel
theorem dX10_press_29 : decode cX10_press 29 = .ok (.ifCond .ne 7, 3) := by decide +kernel
theorem dX10_press_32 : decode cX10_press 32 = .ok (.iload_n 2, 1) := by decide +kernel
theorem dX10_press_33 : decode cX10_press 33 = .ok (.goto 9, 3) := by decide +kernel
theorem dX10_press_36 : decode cX10_press 36 = .ok (.aload_n 0, 1) := by decide +kernel
theorem dX10_press_37 : decode cX10_press 37 = .ok (.getfield 220, 3) := by decide +kernel
theorem dX10_press_40 : decode cX10_press 40 = .ok (.iload_n 2, 1) := by decide +kernel
theorem dX10_press_41 : decode cX10_press 41 = .ok (.ior, 1) := by decide +kernel
theorem dX10_press_42 : decode cX10_press 42 = .ok (.putfield 220, 3) := by decide +kernel
theorem dX10_press_45 : decode cX10_press 45 = .ok (.aload_n 0, 1) := by decide +kernel
theorem dX10_press_46 : decode cX10_press 46 = .ok (.dup, 1) := by decide +kernel
theorem dX10_press_47 : decode cX10_press 47 = .ok (.getfield 215, 3) := by decide +kernel
theorem dX10_press_50 : decode cX10_press 50 = .ok (.iload_n 2, 1) := by decide +kernel
theorem dX10_press_51 : decode cX10_press 51 = .ok (.ior, 1) := by decide +kernel
theorem dX10_press_52 : decode cX10_press 52 = .ok (.putfield 215, 3) := by decide +kernel
theorem dX10_press_55 : decode cX10_press 55 = .ok (.aload_n 0, 1) := by decide +kernel
theorem dX10_press_56 : decode cX10_press 56 = .ok (.getfield 215, 3) := by decide +kernel
theorem dX10_press_59 : decode cX10_press 59 = .ok (.invokestatic 223, 3) := by decide +kernel
theorem dX10_press_62 : decode cX10_press 62 = .ok (.ireturn, 1) := by decide +kernel
theorem dX10_release_0 : decode cX10_release 0 = .ok (.iload_n 1, 1) := by decide +kernel
theorem dX10_release_1 : decode cX10_release 1 = .ok (.invokestatic 211, 3) := by decide +kernel
theorem dX10_release_4 : decode cX10_release 4 = .ok (.istore_n 2, 1) := by decide +kernel
theorem dX10_release_5 : decode cX10_release 5 = .ok (.aload_n 0, 1) := by decide +kernel
theorem dX10_release_6 : decode cX10_release 6 = .ok (.getfield 215, 3) := by decide +kernel
theorem dX10_release_9 : decode cX10_release 9 = .ok (.iload_n 2, 1) := by decide +kernel
theorem dX10_release_10 : decode cX10_release 10 = .ok (.iand, 1) := by decide +kernel
theorem dX10_release_11 : decode cX10_release 11 = .ok (.ifCond .ne 13, 3) := by decide +kernel
theorem dX10_release_14 : decode cX10_release 14 = .ok (.new 63, 3) := by decide +kernel
theorem dX10_release_17 : decode cX10_release 17 = .ok (.dup, 1) := by decide +kernel
theorem dX10_release_18 : decode cX10_release 18 = .ok (.ldc 228, 2) := by decide +kernel
theorem dX10_release_20 : decode cX10_release 20 = .ok (.invokespecial 67, 3) := by decide +kernel
theorem dX10_release_23 : decode cX10_release 23 = .ok (.athrow, 1) := by decide +kernel
theorem dX10_release_24 : decode cX10_release 24 = .ok (.aload_n 0, 1) := by decide +kernel
theorem dX10_release_25 : decode cX10_release 25 = .ok (.dup, 1) := by decide +kernel
theorem dX10_release_26 : decode cX10_release 26 = .ok (.getfield 215, 3) := by decide +kernel
theorem dX10_release_29 : decode cX10_release 29 = .ok (.iload_n 2, 1) := by decide +kernel
theorem dX10_release_30 : decode cX10_release 30 = .ok (.iconst (-1), 1) := by decide +kernel
theorem dX10_release_31 : decode cX10_release 31 = .ok (.ixor, 1) := by decide +kernel
theorem dX10_release_32 : decode cX10_release 32 = .ok (.iand, 1) := by decide +kernel
theorem dX10_release_33 : decode cX10_release 33 = .ok (.putfield 215, 3) := by decide +kernel
theorem dX10_release_36 : decode cX10_release 36 = .ok (.aload_n 0, 1) := by decide +kernel
theorem dX10_release_37 : decode cX10_release 37 = .ok (.getfield 215, 3) := by decide +kernel
theorem dX10_release_40 : decode cX10_release 40 = .ok (.ifCond .ne 14, 3) := by decide +kernel
theorem dX10_release_43 : decode cX10_release 43 = .ok (.aload_n 0, 1) := by decide +kernel
theorem dX10_release_44 : decode cX10_release 44 = .ok (.getfield 35, 3) := by decide +kernel
theorem dX10_release_47 : decode cX10_release 47 = .ok (.aload_n 0, 1) := by decide +kernel
theorem dX10_release_48 : decode cX10_release 48 = .ok (.getfield 220, 3) := by decide +kernel
theorem dX10_release_51 : decode cX10_release 51 = .ok (.invokevirtual 230, 3) := by decide +kernel
theorem dX10_release_54 : decode cX10_release 54 = .ok (.aload_n 0, 1) := by decide +kernel
theorem dX10_release_55 : decode cX10_release 55 = .ok (.getfield 215, 3) := by decide +kernel
theorem dX10_release_58 : decode cX10_release 58 = .ok (.invokestatic 223, 3) := by decide +kernel
theorem dX10_release_61 : decode cX10_release 61 = .ok (.ireturn, 1) := by decide +kernel
theorem dX10_chord_0 : decode cX10_chord 0 = .ok (.iload_n 1, 1) := by decide +kernel
theorem dX10_chord_1 : decode cX10_chord 1 = .ok (.iconst 1, 1) := by decide +kernel
theorem dX10_chord_2 : decode cX10_chord 2 = .ok (.if_icmp .lt 10, 3) := by decide +kernel
theorem dX10_chord_5 : decode cX10_chord 5 = .ok (.iload_n 1, 1) := by decide +kernel
theorem dX10_chord_6 : decode cX10_chord 6 = .ok (.sipush 511, 3) := by decide +kernel
theorem dX10_chord_9 : decode cX10_chord 9 = .ok (.if_icmp .le 13, 3) := by decide +kernel
theorem dX10_chord_12 : decode cX10_chord 12 = .ok (.new 52, 3) := by decide +kernel
theorem dX10_chord_15 : decode cX10_chord 15 = .ok (.dup, 1) := by decide +kernel
theorem dX10_chord_16 : decode cX10_chord 16 = .ok (.ldc 233, 2) := by decide +kernel
theorem dX10_chord_18 : decode cX10_chord 18 = .ok (.invokespecial 56, 3) := by decide +kernel
theorem dX10_chord_21 : decode cX10_chord 21 = .ok (.athrow, 1) := by decide +kernel
theorem dX10_chord_22 : decode cX10_chord 22 = .ok (.aload_n 0, 1) := by decide +kernel
theorem dX10_chord_23 : decode cX10_chord 23 = .ok (.getfield 215, 3) := by decide +kernel
theorem dX10_chord_26 : decode cX10_chord 26 = .ok (.ifCond .eq 13, 3) := by decide +kernel
theorem dX10_chord_29 : decode cX10_chord 29 = .ok (.new 63, 3) := by decide +kernel
theorem dX10_chord_32 : decode cX10_chord 32 = .ok (.dup, 1) := by decide +kernel
theorem dX10_chord_33 : decode cX10_chord 33 = .ok (.ldc 235, 2) := by decide +kernel
theorem dX10_chord_35 : decode cX10_chord 35 = .ok (.invokespecial 67, 3) := by decide +kernel
theorem dX10_chord_38 : decode cX10_chord 38 = .ok (.athrow, 1) := by decide +kernel
theorem dX10_chord_39 : decode cX10_chord 39 = .ok (.aload_n 0, 1) := by decide +kernel
theorem dX10_chord_40 : decode cX10_chord 40 = .ok (.getfield 35, 3) := by decide +kernel
theorem dX10_chord_43 : decode cX10_chord 43 = .ok (.iload_n 1, 1) := by decide +kernel
theorem dX10_chord_44 : decode cX10_chord 44 = .ok (.invokevirtual 230, 3) := by decide +kernel
theorem dX10_chord_47 : decode cX10_chord 47 = .ok (.aload_n 0, 1) := by decide +kernel
theorem dX10_chord_48 : decode cX10_chord 48 = .ok (.getfield 35, 3) := by decide +kernel
theorem dX10_chord_51 : decode cX10_chord 51 = .ok (.getfield 237, 3) := by decide +kernel
theorem dX10_chord_54 : decode cX10_chord 54 = .ok (.getfield 103, 3) := by decide +kernel
theorem dX10_chord_57 : decode cX10_chord 57 = .ok (.ireturn, 1) := by decide +kernel
theorem dX10_cursor_0 : decode cX10_cursor 0 = .ok (.aload_n 0, 1) := by decide +kernel
theorem dX10_cursor_1 : decode cX10_cursor 1 = .ok (.getfield 35, 3) := by decide +kernel
theorem dX10_cursor_4 : decode cX10_cursor 4 = .ok (.getfield 237, 3) := by decide +kernel
theorem dX10_cursor_7 : decode cX10_cursor 7 = .ok (.getfield 103, 3) := by decide +kernel
theorem dX10_cursor_10 : decode cX10_cursor 10 = .ok (.ireturn, 1) := by decide +kernel
theorem dX10_focus_0 : decode cX10_focus 0 = .ok (.aload_n 0, 1) := by decide +kernel
theorem dX10_focus_1 : decode cX10_focus 1 = .ok (.getfield 35, 3) := by decide +kernel
theorem dX10_focus_4 : decode cX10_focus 4 = .ok (.getfield 240, 3) := by decide +kernel
theorem dX10_focus_7 : decode cX10_focus 7 = .ok (.astore_n 1, 1) := by decide +kernel
theorem dX10_focus_8 : decode cX10_focus 8 = .ok (.aload_n 1, 1) := by decide +kernel
theorem dX10_focus_9 : decode cX10_focus 9 = .ok (.ifnonnull 7, 3) := by decide +kernel
theorem dX10_focus_12 : decode cX10_focus 12 = .ok (.iconst (-1), 1) := by decide +kernel
theorem dX10_focus_13 : decode cX10_focus 13 = .ok (.goto 7, 3) := by decide +kernel
theorem dX10_focus_16 : decode cX10_focus 16 = .ok (.aload_n 1, 1) := by decide +kernel
theorem dX10_focus_17 : decode cX10_focus 17 = .ok (.getfield 103, 3) := by decide +kernel
theorem dX10_focus_20 : decode cX10_focus 20 = .ok (.ireturn, 1) := by decide +kernel
theorem dX10_isTyping_0 : decode cX10_isTyping 0 = .ok (.aload_n 0, 1) := by decide +kernel
theorem dX10_isTyping_1 : decode cX10_isTyping 1 = .ok (.getfield 35, 3) := by decide +kernel
theorem dX10_isTyping_4 : decode cX10_isTyping 4 = .ok (.getfield 243, 3) := by decide +kernel
theorem dX10_isTyping_7 : decode cX10_isTyping 7 = .ok (.getfield 247, 3) := by decide +kernel
theorem dX10_isTyping_10 : decode cX10_isTyping 10 = .ok (.ireturn, 1) := by decide +kernel
theorem dX10_offset_0 : decode cX10_offset 0 = .ok (.aload_n 0, 1) := by decide +kernel
theorem dX10_offset_1 : decode cX10_offset 1 = .ok (.getfield 35, 3) := by decide +kernel
theorem dX10_offset_4 : decode cX10_offset 4 = .ok (.getfield 252, 3) := by decide +kernel
theorem dX10_offset_7 : decode cX10_offset 7 = .ok (.getfield 256, 3) := by decide +kernel
theorem dX10_offset_10 : decode cX10_offset 10 = .ok (.ireturn, 1) := by decide +kernel
theorem dX10_lineLength_0 : decode cX10_lineLength 0 = .ok (.aload_n 0, 1) := by decide +kernel
theorem dX10_lineLength_1 : decode cX10_lineLength 1 = .ok (.getfield 35, 3) := by decide +kernel
theorem dX10_lineLength_4 : decode cX10_lineLength 4 = .ok (.getfield 252, 3) := by decide +kernel
theorem dX10_lineLength_7 : decode cX10_lineLength 7 = .ok (.getfield 261, 3) := by decide +kernel
theorem dX10_lineLength_10 : decode cX10_lineLength 10 = .ok (.invokevirtual 59, 3) := by decide +kernel
theorem dX10_lineLength_13 : decode cX10_lineLength 13 = .ok (.ireturn, 1) := by decide +kernel
theorem dX10_refuseNoPin_0 : decode cX10_refuseNoPin 0 = .ok (.iload_n 0, 1) := by decide +kernel
theorem dX10_refuseNoPin_1 : decode cX10_refuseNoPin 1 = .ok (.ifCond .lt 9, 3) := by decide +kernel
theorem dX10_refuseNoPin_4 : decode cX10_refuseNoPin 4 = .ok (.iload_n 0, 1) := by decide +kernel
theorem dX10_refuseNoPin_5 : decode cX10_refuseNoPin 5 = .ok (.bipush 10, 2) := by decide +kernel
theorem dX10_refuseNoPin_7 : decode cX10_refuseNoPin 7 = .ok (.if_icmp .lt 14, 3) := by decide +kernel
theorem dX10_refuseNoPin_10 : decode cX10_refuseNoPin 10 = .ok (.new 185, 3) := by decide +kernel
theorem dX10_refuseNoPin_13 : decode cX10_refuseNoPin 13 = .ok (.dup, 1) := by decide +kernel
theorem dX10_refuseNoPin_14 : decode cX10_refuseNoPin 14 = .ok (.ldc_w 322, 3) := by decide +kernel
theorem dX10_refuseNoPin_17 : decode cX10_refuseNoPin 17 = .ok (.invokespecial 189, 3) := by decide +kernel
theorem dX10_refuseNoPin_20 : decode cX10_refuseNoPin 20 = .ok (.athrow, 1) := by decide +kernel
theorem dX10_refuseNoPin_21 : decode cX10_refuseNoPin 21 = .ok (.return_, 1) := by decide +kernel
theorem dX10_pin_0 : decode cX10_pin 0 = .ok (.iload_n 1, 1) := by decide +kernel
theorem dX10_pin_1 : decode cX10_pin 1 = .ok (.invokestatic 264, 3) := by decide +kernel
theorem dX10_pin_4 : decode cX10_pin 4 = .ok (.aload_n 0, 1) := by decide +kernel
theorem dX10_pin_5 : decode cX10_pin 5 = .ok (.getfield 35, 3) := by decide +kernel
theorem dX10_pin_8 : decode cX10_pin 8 = .ok (.getfield 252, 3) := by decide +kernel
theorem dX10_pin_11 : decode cX10_pin 11 = .ok (.iload_n 1, 1) := by decide +kernel
theorem dX10_pin_12 : decode cX10_pin 12 = .ok (.invokevirtual 267, 3) := by decide +kernel
theorem dX10_pin_15 : decode cX10_pin 15 = .ok (.ireturn, 1) := by decide +kernel
theorem dX10_pinAnew_0 : decode cX10_pinAnew 0 = .ok (.iload_n 1, 1) := by decide +kernel
theorem dX10_pinAnew_1 : decode cX10_pinAnew 1 = .ok (.invokestatic 264, 3) := by decide +kernel
theorem dX10_pinAnew_4 : decode cX10_pinAnew 4 = .ok (.aload_n 0, 1) := by decide +kernel
theorem dX10_pinAnew_5 : decode cX10_pinAnew 5 = .ok (.getfield 35, 3) := by decide +kernel
theorem dX10_pinAnew_8 : decode cX10_pinAnew 8 = .ok (.iload_n 1, 1) := by decide +kernel
theorem dX10_pinAnew_9 : decode cX10_pinAnew 9 = .ok (.invokevirtual 270, 3) := by decide +kernel
theorem dX10_pinAnew_12 : decode cX10_pinAnew 12 = .ok (.ireturn, 1) := by decide +kernel
theorem dX10_wordsOf_0 : decode cX10_wordsOf 0 = .ok (.aload_n 1, 1) := by decide +kernel
theorem dX10_wordsOf_1 : decode cX10_wordsOf 1 = .ok (.invokevirtual 110, 3) := by decide +kernel
theorem dX10_wordsOf_4 : decode cX10_wordsOf 4 = .ok (.ifCond .ne 14, 3) := by decide +kernel
theorem dX10_wordsOf_7 : decode cX10_wordsOf 7 = .ok (.new 63, 3) := by decide +kernel
theorem dX10_wordsOf_10 : decode cX10_wordsOf 10 = .ok (.dup, 1) := by decide +kernel
theorem dX10_wordsOf_11 : decode cX10_wordsOf 11 = .ok (.ldc_w 331, 3) := by decide +kernel
theorem dX10_wordsOf_14 : decode cX10_wordsOf 14 = .ok (.invokespecial 67, 3) := by decide +kernel
theorem dX10_wordsOf_17 : decode cX10_wordsOf 17 = .ok (.athrow, 1) := by decide +kernel
theorem dX10_wordsOf_18 : decode cX10_wordsOf 18 = .ok (.aload_n 0, 1) := by decide +kernel
theorem dX10_wordsOf_19 : decode cX10_wordsOf 19 = .ok (.getfield 35, 3) := by decide +kernel
theorem dX10_wordsOf_22 : decode cX10_wordsOf 22 = .ok (.aload_n 1, 1) := by decide +kernel
theorem dX10_wordsOf_23 : decode cX10_wordsOf 23 = .ok (.invokevirtual 333, 3) := by decide +kernel
theorem dX10_wordsOf_26 : decode cX10_wordsOf 26 = .ok (.areturn, 1) := by decide +kernel
theorem dX10_wordsLength_0 : decode cX10_wordsLength 0 = .ok (.aload_n 0, 1) := by decide +kernel
theorem dX10_wordsLength_1 : decode cX10_wordsLength 1 = .ok (.aload_n 0, 1) := by decide +kernel
theorem dX10_wordsLength_2 : decode cX10_wordsLength 2 = .ok (.iload_n 1, 1) := by decide +kernel
theorem dX10_wordsLength_3 : decode cX10_wordsLength 3 = .ok (.invokevirtual 71, 3) := by decide +kernel
theorem dX10_wordsLength_6 : decode cX10_wordsLength 6 = .ok (.invokevirtual 273, 3) := by decide +kernel
theorem dX10_wordsLength_9 : decode cX10_wordsLength 9 = .ok (.invokevirtual 59, 3) := by decide +kernel
theorem dX10_wordsLength_12 : decode cX10_wordsLength 12 = .ok (.ireturn, 1) := by decide +kernel
abbrev mJ6_bitCount_0f7a4 : gM := (yJ6_bitCount_0f7a4, cJ6_bitCount_0f7a4, 1, (Option.some FieldType.int), [])
theorem caJ6_bitCount_0f7a4 : cal mJ6_bitCount_0f7a4 1 := ⟨xw 1111 (by decide +kernel) rfl, xw 109 (by decide +kernel) rfl, by decide, by decide +kernel⟩
theorem csJ6_bitCount_0f7a4 : Cond.static yJ6_bitCount_0f7a4 ∈ XW := xw 1110 (by decide +kernel) rfl
abbrev mX10_press : gM := (yX10_press, cX10_press, 3, (Option.some FieldType.int), [])
theorem caX10_press : cal mX10_press 1 := ⟨xw 1103 (by decide +kernel) rfl, xw 87 (by decide +kernel) rfl, by decide, by decide +kernel⟩
theorem cvX10_press : calV mX10_press := ⟨xw 1101 (by decide +kernel) rfl, xw 1102 (by decide +kernel) rfl⟩
abbrev mX10_release : gM := (yX10_release, cX10_release, 3, (Option.some FieldType.int), [])
theorem caX10_release : cal mX10_release 1 := ⟨xw 1121 (by decide +kernel) rfl, xw 87 (by decide +kernel) rfl, by decide, by decide +kernel⟩
theorem cvX10_release : calV mX10_release := ⟨xw 1119 (by decide +kernel) rfl, xw 1120 (by decide +kernel) rfl⟩
abbrev mX10_chord : gM := (yX10_chord, cX10_chord, 2, (Option.some FieldType.int), [])
theorem caX10_chord : cal mX10_chord 1 := ⟨xw 1284 (by decide +kernel) rfl, xw 87 (by decide +kernel) rfl, by decide, by decide +kernel⟩
theorem cvX10_chord : calV mX10_chord := ⟨xw 1282 (by decide +kernel) rfl, xw 1283 (by decide +kernel) rfl⟩
abbrev mX10_cursor : gM := (yX10_cursor, cX10_cursor, 1, (Option.some FieldType.int), [])
theorem caX10_cursor : cal mX10_cursor 0 := ⟨xw 549 (by decide +kernel) rfl, xw 87 (by decide +kernel) rfl, by decide, by decide +kernel⟩
theorem cvX10_cursor : calV mX10_cursor := ⟨xw 547 (by decide +kernel) rfl, xw 548 (by decide +kernel) rfl⟩
abbrev mX10_focus : gM := (yX10_focus, cX10_focus, 2, (Option.some FieldType.int), [])
theorem caX10_focus : cal mX10_focus 0 := ⟨xw 553 (by decide +kernel) rfl, xw 87 (by decide +kernel) rfl, by decide, by decide +kernel⟩
theorem cvX10_focus : calV mX10_focus := ⟨xw 551 (by decide +kernel) rfl, xw 552 (by decide +kernel) rfl⟩
abbrev mX10_isTyping : gM := (yX10_isTyping, cX10_isTyping, 1, (Option.some FieldType.boolean), [])
theorem caX10_isTyping : cal mX10_isTyping 0 := ⟨xw 557 (by decide +kernel) rfl, xw 87 (by decide +kernel) rfl, by decide, by decide +kernel⟩
theorem cvX10_isTyping : calV mX10_isTyping := ⟨xw 555 (by decide +kernel) rfl, xw 556 (by decide +kernel) rfl⟩
abbrev mX10_offset : gM := (yX10_offset, cX10_offset, 1, (Option.some FieldType.int), [])
theorem caX10_offset : cal mX10_offset 0 := ⟨xw 561 (by decide +kernel) rfl, xw 87 (by decide +kernel) rfl, by decide, by decide +kernel⟩
theorem cvX10_offset : calV mX10_offset := ⟨xw 559 (by decide +kernel) rfl, xw 560 (by decide +kernel) rfl⟩
abbrev mX10_lineLength : gM := (yX10_lineLength, cX10_lineLength, 1, (Option.some FieldType.int), [])
theorem caX10_lineLength : cal mX10_lineLength 0 := ⟨xw 565 (by decide +kernel) rfl, xw 87 (by decide +kernel) rfl, by decide, by decide +kernel⟩
theorem cvX10_lineLength : calV mX10_lineLength := ⟨xw 563 (by decide +kernel) rfl, xw 564 (by decide +kernel) rfl⟩
abbrev mX10_refuseNoPin : gM := (yX10_refuseNoPin, cX10_refuseNoPin, 1, (Option.none : Option FieldType), [])
theorem caX10_refuseNoPin : cal mX10_refuseNoPin 1 := ⟨xw 1296 (by decide +kernel) rfl, xw 87 (by decide +kernel) rfl, by decide, by decide +kernel⟩
theorem csX10_refuseNoPin : Cond.static yX10_refuseNoPin ∈ XW := xw 1295 (by decide +kernel) rfl
abbrev mX10_pin : gM := (yX10_pin, cX10_pin, 2, (Option.some FieldType.int), [])
theorem caX10_pin : cal mX10_pin 1 := ⟨xw 1293 (by decide +kernel) rfl, xw 87 (by decide +kernel) rfl, by decide, by decide +kernel⟩
theorem cvX10_pin : calV mX10_pin := ⟨xw 1291 (by decide +kernel) rfl, xw 1292 (by decide +kernel) rfl⟩
abbrev mX10_pinAnew : gM := (yX10_pinAnew, cX10_pinAnew, 2, (Option.some FieldType.int), [])
theorem caX10_pinAnew : cal mX10_pinAnew 1 := ⟨xw 1313 (by decide +kernel) rfl, xw 87 (by decide +kernel) rfl, by decide, by decide +kernel⟩
theorem cvX10_pinAnew : calV mX10_pinAnew := ⟨xw 1311 (by decide +kernel) rfl, xw 1312 (by decide +kernel) rfl⟩
abbrev mX10_wordsOf : gM := (yX10_wordsOf, cX10_wordsOf, 2, (Option.some (FieldType.object "BrailleDesk$Codes")), [])
theorem caX10_wordsOf : cal mX10_wordsOf 1 := ⟨xw 1332 (by decide +kernel) rfl, xw 87 (by decide +kernel) rfl, by decide, by decide +kernel⟩
theorem cvX10_wordsOf : calV mX10_wordsOf := ⟨xw 1331 (by decide +kernel) rfl, xw 25 (by decide +kernel) rfl⟩
abbrev mX10_wordsLength : gM := (yX10_wordsLength, cX10_wordsLength, 2, (Option.some FieldType.int), [])
theorem caX10_wordsLength : cal mX10_wordsLength 1 := ⟨xw 1328 (by decide +kernel) rfl, xw 87 (by decide +kernel) rfl, by decide, by decide +kernel⟩
theorem cvX10_wordsLength : calV mX10_wordsLength := ⟨xw 1326 (by decide +kernel) rfl, xw 1327 (by decide +kernel) rfl⟩
theorem ctJ6_265 : Cond.constant RJ6 265 (1431655765 : Int32) ∈ XW := xw 1112 (by decide +kernel) rfl
theorem ctJ6_266 : Cond.constant RJ6 266 (858993459 : Int32) ∈ XW := xw 1113 (by decide +kernel) rfl
theorem ctJ6_267 : Cond.constant RJ6 267 (252645135 : Int32) ∈ XW := xw 1114 (by decide +kernel) rfl
theorem pl_J6 : plainName RJ6 = true := by decide +kernel
theorem lkX10_211 : Cond.methodLink RX10 211 yX10_keyBit ∈ XW := xw 1104 (by decide +kernel) rfl
theorem flX10_215 : fl RX10 215 9 5 := ⟨by decide, by decide, xw 521 (by decide +kernel) rfl⟩
theorem flX10_220 : fl RX10 220 9 6 := ⟨by decide, by decide, xw 522 (by decide +kernel) rfl⟩
theorem lkX10_223 : Cond.methodLink RX10 223 yJ6_bitCount_0f7a4 ∈ XW := xw 1109 (by decide +kernel) rfl
theorem lkX10_230 : Cond.methodLink RX10 230 yX5_obey ∈ XW := xw 1123 (by decide +kernel) rfl
theorem flX10_237 : fl RX10 237 4 5 := ⟨by decide, by decide, xw 495 (by decide +kernel) rfl⟩
theorem flX10_240 : fl RX10 240 4 6 := ⟨by decide, by decide, xw 497 (by decide +kernel) rfl⟩
theorem flX10_243 : fl RX10 243 4 3 := ⟨by decide, by decide, xw 492 (by decide +kernel) rfl⟩
theorem flX10_247 : fl RX10 247 7 0 := ⟨by decide, by decide, xw 363 (by decide +kernel) rfl⟩
theorem flX10_252 : fl RX10 252 4 2 := ⟨by decide, by decide, xw 490 (by decide +kernel) rfl⟩
theorem flX10_256 : fl RX10 256 2 2 := ⟨by decide, by decide, xw 347 (by decide +kernel) rfl⟩
theorem flX10_261 : fl RX10 261 2 0 := ⟨by decide, by decide, xw 343 (by decide +kernel) rfl⟩
theorem lkX10_264 : Cond.methodLink RX10 264 yX10_refuseNoPin ∈ XW := xw 1294 (by decide +kernel) rfl
theorem lkX10_267 : Cond.methodLink RX10 267 yX3_cell ∈ XW := xw 1298 (by decide +kernel) rfl
theorem lkX10_270 : Cond.methodLink RX10 270 yX5_cellAnew ∈ XW := xw 1314 (by decide +kernel) rfl
theorem lkX10_333 : Cond.methodLink RX10 333 yX5_wordsOf ∈ XW := xw 1334 (by decide +kernel) rfl
theorem lkX10_273 : Cond.methodLink RX10 273 yX10_wordsOf ∈ XW := xw 1329 (by decide +kernel) rfl
/-! Integer.bitCount -/
theorem tJ6_bitCount_0f7a4 {G : gG} (a0 : Int32) (h : hp) (Q : hQ) (hF : okB (fJ6_bitCount_0f7a4 a0) (pP gI Q h)) : gS G mJ6_bitCount_0f7a4 0 0 0 [si a0] h Q := by
  delta fJ6_bitCount_0f7a4 at hF
  refine gS_at [some (si a0)] pl_J6 rfl (Nat.le_of_ble_eq_true rfl) rfl ?_
  refine v_iload_n (pc := 0) (i := 0) dJ6_bitCount_0f7a4_0 rfl rfl ?_
  refine v_iload_n (pc := 1) (i := 0) dJ6_bitCount_0f7a4_1 rfl rfl ?_
  refine v_iconst (pc := 2) (v := (1 : Int32)) dJ6_bitCount_0f7a4_2 rfl ?_
  refine v_iushr (pc := 3) (v := (a0.toUInt32 >>> ((1 : Int32).toUInt32 &&& Int32.toUInt32 31)).toInt32) dJ6_bitCount_0f7a4_3 rfl ?_
  refine v_ldcw (pc := 4) (v := (1431655765 : Int32)) dJ6_bitCount_0f7a4_4 ctJ6_265 ?_
  refine v_iand (pc := 7) dJ6_bitCount_0f7a4_7 ?_
  refine v_isub (pc := 8) dJ6_bitCount_0f7a4_8 ?_
  refine v_istore_n (pc := 9) (i := 0) [some (si (a0 - (((a0.toUInt32 >>> ((1 : Int32).toUInt32 &&& Int32.toUInt32 31)).toInt32) &&& (1431655765 : Int32))))] dJ6_bitCount_0f7a4_9 rfl (by decide) rfl rfl ?_
  refine v_iload_n (pc := 10) (i := 0) dJ6_bitCount_0f7a4_10 rfl rfl ?_
  refine v_ldcw (pc := 11) (v := (858993459 : Int32)) dJ6_bitCount_0f7a4_11 ctJ6_266 ?_
  refine v_iand (pc := 14) dJ6_bitCount_0f7a4_14 ?_
  refine v_iload_n (pc := 15) (i := 0) dJ6_bitCount_0f7a4_15 rfl rfl ?_
  refine v_iconst (pc := 16) (v := (2 : Int32)) dJ6_bitCount_0f7a4_16 rfl ?_
  refine v_iushr (pc := 17) (v := ((a0 - (((a0.toUInt32 >>> ((1 : Int32).toUInt32 &&& Int32.toUInt32 31)).toInt32) &&& (1431655765 : Int32))).toUInt32 >>> ((2 : Int32).toUInt32 &&& Int32.toUInt32 31)).toInt32) dJ6_bitCount_0f7a4_17 rfl ?_
  refine v_ldcw (pc := 18) (v := (858993459 : Int32)) dJ6_bitCount_0f7a4_18 ctJ6_266 ?_
  refine v_iand (pc := 21) dJ6_bitCount_0f7a4_21 ?_
  refine v_iadd (pc := 22) dJ6_bitCount_0f7a4_22 ?_
  refine v_istore_n (pc := 23) (i := 0) [some (si (((a0 - (((a0.toUInt32 >>> ((1 : Int32).toUInt32 &&& Int32.toUInt32 31)).toInt32) &&& (1431655765 : Int32))) &&& (858993459 : Int32)) + ((((a0 - (((a0.toUInt32 >>> ((1 : Int32).toUInt32 &&& Int32.toUInt32 31)).toInt32) &&& (1431655765 : Int32))).toUInt32 >>> ((2 : Int32).toUInt32 &&& Int32.toUInt32 31)).toInt32) &&& (858993459 : Int32))))] dJ6_bitCount_0f7a4_23 rfl (by decide) rfl rfl ?_
  refine v_iload_n (pc := 24) (i := 0) dJ6_bitCount_0f7a4_24 rfl rfl ?_
  refine v_iload_n (pc := 25) (i := 0) dJ6_bitCount_0f7a4_25 rfl rfl ?_
  refine v_iconst (pc := 26) (v := (4 : Int32)) dJ6_bitCount_0f7a4_26 rfl ?_
  refine v_iushr (pc := 27) (v := ((((a0 - (((a0.toUInt32 >>> ((1 : Int32).toUInt32 &&& Int32.toUInt32 31)).toInt32) &&& (1431655765 : Int32))) &&& (858993459 : Int32)) + ((((a0 - (((a0.toUInt32 >>> ((1 : Int32).toUInt32 &&& Int32.toUInt32 31)).toInt32) &&& (1431655765 : Int32))).toUInt32 >>> ((2 : Int32).toUInt32 &&& Int32.toUInt32 31)).toInt32) &&& (858993459 : Int32))).toUInt32 >>> ((4 : Int32).toUInt32 &&& Int32.toUInt32 31)).toInt32) dJ6_bitCount_0f7a4_27 rfl ?_
  refine v_iadd (pc := 28) dJ6_bitCount_0f7a4_28 ?_
  refine v_ldcw (pc := 29) (v := (252645135 : Int32)) dJ6_bitCount_0f7a4_29 ctJ6_267 ?_
  refine v_iand (pc := 32) dJ6_bitCount_0f7a4_32 ?_
  refine v_istore_n (pc := 33) (i := 0) [some (si (((((a0 - (((a0.toUInt32 >>> ((1 : Int32).toUInt32 &&& Int32.toUInt32 31)).toInt32) &&& (1431655765 : Int32))) &&& (858993459 : Int32)) + ((((a0 - (((a0.toUInt32 >>> ((1 : Int32).toUInt32 &&& Int32.toUInt32 31)).toInt32) &&& (1431655765 : Int32))).toUInt32 >>> ((2 : Int32).toUInt32 &&& Int32.toUInt32 31)).toInt32) &&& (858993459 : Int32))) + (((((a0 - (((a0.toUInt32 >>> ((1 : Int32).toUInt32 &&& Int32.toUInt32 31)).toInt32) &&& (1431655765 : Int32))) &&& (858993459 : Int32)) + ((((a0 - (((a0.toUInt32 >>> ((1 : Int32).toUInt32 &&& Int32.toUInt32 31)).toInt32) &&& (1431655765 : Int32))).toUInt32 >>> ((2 : Int32).toUInt32 &&& Int32.toUInt32 31)).toInt32) &&& (858993459 : Int32))).toUInt32 >>> ((4 : Int32).toUInt32 &&& Int32.toUInt32 31)).toInt32)) &&& (252645135 : Int32)))] dJ6_bitCount_0f7a4_33 rfl (by decide) rfl rfl ?_
  refine v_iload_n (pc := 34) (i := 0) dJ6_bitCount_0f7a4_34 rfl rfl ?_
  refine v_iload_n (pc := 35) (i := 0) dJ6_bitCount_0f7a4_35 rfl rfl ?_
  refine v_bipush (pc := 36) (v := (8 : Int32)) dJ6_bitCount_0f7a4_36 rfl ?_
  refine v_iushr (pc := 38) (v := ((((((a0 - (((a0.toUInt32 >>> ((1 : Int32).toUInt32 &&& Int32.toUInt32 31)).toInt32) &&& (1431655765 : Int32))) &&& (858993459 : Int32)) + ((((a0 - (((a0.toUInt32 >>> ((1 : Int32).toUInt32 &&& Int32.toUInt32 31)).toInt32) &&& (1431655765 : Int32))).toUInt32 >>> ((2 : Int32).toUInt32 &&& Int32.toUInt32 31)).toInt32) &&& (858993459 : Int32))) + (((((a0 - (((a0.toUInt32 >>> ((1 : Int32).toUInt32 &&& Int32.toUInt32 31)).toInt32) &&& (1431655765 : Int32))) &&& (858993459 : Int32)) + ((((a0 - (((a0.toUInt32 >>> ((1 : Int32).toUInt32 &&& Int32.toUInt32 31)).toInt32) &&& (1431655765 : Int32))).toUInt32 >>> ((2 : Int32).toUInt32 &&& Int32.toUInt32 31)).toInt32) &&& (858993459 : Int32))).toUInt32 >>> ((4 : Int32).toUInt32 &&& Int32.toUInt32 31)).toInt32)) &&& (252645135 : Int32)).toUInt32 >>> ((8 : Int32).toUInt32 &&& Int32.toUInt32 31)).toInt32) dJ6_bitCount_0f7a4_38 rfl ?_
  refine v_iadd (pc := 39) dJ6_bitCount_0f7a4_39 ?_
  refine v_istore_n (pc := 40) (i := 0) [some (si ((((((a0 - (((a0.toUInt32 >>> ((1 : Int32).toUInt32 &&& Int32.toUInt32 31)).toInt32) &&& (1431655765 : Int32))) &&& (858993459 : Int32)) + ((((a0 - (((a0.toUInt32 >>> ((1 : Int32).toUInt32 &&& Int32.toUInt32 31)).toInt32) &&& (1431655765 : Int32))).toUInt32 >>> ((2 : Int32).toUInt32 &&& Int32.toUInt32 31)).toInt32) &&& (858993459 : Int32))) + (((((a0 - (((a0.toUInt32 >>> ((1 : Int32).toUInt32 &&& Int32.toUInt32 31)).toInt32) &&& (1431655765 : Int32))) &&& (858993459 : Int32)) + ((((a0 - (((a0.toUInt32 >>> ((1 : Int32).toUInt32 &&& Int32.toUInt32 31)).toInt32) &&& (1431655765 : Int32))).toUInt32 >>> ((2 : Int32).toUInt32 &&& Int32.toUInt32 31)).toInt32) &&& (858993459 : Int32))).toUInt32 >>> ((4 : Int32).toUInt32 &&& Int32.toUInt32 31)).toInt32)) &&& (252645135 : Int32)) + (((((((a0 - (((a0.toUInt32 >>> ((1 : Int32).toUInt32 &&& Int32.toUInt32 31)).toInt32) &&& (1431655765 : Int32))) &&& (858993459 : Int32)) + ((((a0 - (((a0.toUInt32 >>> ((1 : Int32).toUInt32 &&& Int32.toUInt32 31)).toInt32) &&& (1431655765 : Int32))).toUInt32 >>> ((2 : Int32).toUInt32 &&& Int32.toUInt32 31)).toInt32) &&& (858993459 : Int32))) + (((((a0 - (((a0.toUInt32 >>> ((1 : Int32).toUInt32 &&& Int32.toUInt32 31)).toInt32) &&& (1431655765 : Int32))) &&& (858993459 : Int32)) + ((((a0 - (((a0.toUInt32 >>> ((1 : Int32).toUInt32 &&& Int32.toUInt32 31)).toInt32) &&& (1431655765 : Int32))).toUInt32 >>> ((2 : Int32).toUInt32 &&& Int32.toUInt32 31)).toInt32) &&& (858993459 : Int32))).toUInt32 >>> ((4 : Int32).toUInt32 &&& Int32.toUInt32 31)).toInt32)) &&& (252645135 : Int32)).toUInt32 >>> ((8 : Int32).toUInt32 &&& Int32.toUInt32 31)).toInt32)))] dJ6_bitCount_0f7a4_40 rfl (by decide) rfl rfl ?_
  refine v_iload_n (pc := 41) (i := 0) dJ6_bitCount_0f7a4_41 rfl rfl ?_
  refine v_iload_n (pc := 42) (i := 0) dJ6_bitCount_0f7a4_42 rfl rfl ?_
  refine v_bipush (pc := 43) (v := (16 : Int32)) dJ6_bitCount_0f7a4_43 rfl ?_
  refine v_iushr (pc := 45) (v := (((((((a0 - (((a0.toUInt32 >>> ((1 : Int32).toUInt32 &&& Int32.toUInt32 31)).toInt32) &&& (1431655765 : Int32))) &&& (858993459 : Int32)) + ((((a0 - (((a0.toUInt32 >>> ((1 : Int32).toUInt32 &&& Int32.toUInt32 31)).toInt32) &&& (1431655765 : Int32))).toUInt32 >>> ((2 : Int32).toUInt32 &&& Int32.toUInt32 31)).toInt32) &&& (858993459 : Int32))) + (((((a0 - (((a0.toUInt32 >>> ((1 : Int32).toUInt32 &&& Int32.toUInt32 31)).toInt32) &&& (1431655765 : Int32))) &&& (858993459 : Int32)) + ((((a0 - (((a0.toUInt32 >>> ((1 : Int32).toUInt32 &&& Int32.toUInt32 31)).toInt32) &&& (1431655765 : Int32))).toUInt32 >>> ((2 : Int32).toUInt32 &&& Int32.toUInt32 31)).toInt32) &&& (858993459 : Int32))).toUInt32 >>> ((4 : Int32).toUInt32 &&& Int32.toUInt32 31)).toInt32)) &&& (252645135 : Int32)) + (((((((a0 - (((a0.toUInt32 >>> ((1 : Int32).toUInt32 &&& Int32.toUInt32 31)).toInt32) &&& (1431655765 : Int32))) &&& (858993459 : Int32)) + ((((a0 - (((a0.toUInt32 >>> ((1 : Int32).toUInt32 &&& Int32.toUInt32 31)).toInt32) &&& (1431655765 : Int32))).toUInt32 >>> ((2 : Int32).toUInt32 &&& Int32.toUInt32 31)).toInt32) &&& (858993459 : Int32))) + (((((a0 - (((a0.toUInt32 >>> ((1 : Int32).toUInt32 &&& Int32.toUInt32 31)).toInt32) &&& (1431655765 : Int32))) &&& (858993459 : Int32)) + ((((a0 - (((a0.toUInt32 >>> ((1 : Int32).toUInt32 &&& Int32.toUInt32 31)).toInt32) &&& (1431655765 : Int32))).toUInt32 >>> ((2 : Int32).toUInt32 &&& Int32.toUInt32 31)).toInt32) &&& (858993459 : Int32))).toUInt32 >>> ((4 : Int32).toUInt32 &&& Int32.toUInt32 31)).toInt32)) &&& (252645135 : Int32)).toUInt32 >>> ((8 : Int32).toUInt32 &&& Int32.toUInt32 31)).toInt32)).toUInt32 >>> ((16 : Int32).toUInt32 &&& Int32.toUInt32 31)).toInt32) dJ6_bitCount_0f7a4_45 rfl ?_
  refine v_iadd (pc := 46) dJ6_bitCount_0f7a4_46 ?_
  refine v_istore_n (pc := 47) (i := 0) [some (si (((((((a0 - (((a0.toUInt32 >>> ((1 : Int32).toUInt32 &&& Int32.toUInt32 31)).toInt32) &&& (1431655765 : Int32))) &&& (858993459 : Int32)) + ((((a0 - (((a0.toUInt32 >>> ((1 : Int32).toUInt32 &&& Int32.toUInt32 31)).toInt32) &&& (1431655765 : Int32))).toUInt32 >>> ((2 : Int32).toUInt32 &&& Int32.toUInt32 31)).toInt32) &&& (858993459 : Int32))) + (((((a0 - (((a0.toUInt32 >>> ((1 : Int32).toUInt32 &&& Int32.toUInt32 31)).toInt32) &&& (1431655765 : Int32))) &&& (858993459 : Int32)) + ((((a0 - (((a0.toUInt32 >>> ((1 : Int32).toUInt32 &&& Int32.toUInt32 31)).toInt32) &&& (1431655765 : Int32))).toUInt32 >>> ((2 : Int32).toUInt32 &&& Int32.toUInt32 31)).toInt32) &&& (858993459 : Int32))).toUInt32 >>> ((4 : Int32).toUInt32 &&& Int32.toUInt32 31)).toInt32)) &&& (252645135 : Int32)) + (((((((a0 - (((a0.toUInt32 >>> ((1 : Int32).toUInt32 &&& Int32.toUInt32 31)).toInt32) &&& (1431655765 : Int32))) &&& (858993459 : Int32)) + ((((a0 - (((a0.toUInt32 >>> ((1 : Int32).toUInt32 &&& Int32.toUInt32 31)).toInt32) &&& (1431655765 : Int32))).toUInt32 >>> ((2 : Int32).toUInt32 &&& Int32.toUInt32 31)).toInt32) &&& (858993459 : Int32))) + (((((a0 - (((a0.toUInt32 >>> ((1 : Int32).toUInt32 &&& Int32.toUInt32 31)).toInt32) &&& (1431655765 : Int32))) &&& (858993459 : Int32)) + ((((a0 - (((a0.toUInt32 >>> ((1 : Int32).toUInt32 &&& Int32.toUInt32 31)).toInt32) &&& (1431655765 : Int32))).toUInt32 >>> ((2 : Int32).toUInt32 &&& Int32.toUInt32 31)).toInt32) &&& (858993459 : Int32))).toUInt32 >>> ((4 : Int32).toUInt32 &&& Int32.toUInt32 31)).toInt32)) &&& (252645135 : Int32)).toUInt32 >>> ((8 : Int32).toUInt32 &&& Int32.toUInt32 31)).toInt32)) + ((((((((a0 - (((a0.toUInt32 >>> ((1 : Int32).toUInt32 &&& Int32.toUInt32 31)).toInt32) &&& (1431655765 : Int32))) &&& (858993459 : Int32)) + ((((a0 - (((a0.toUInt32 >>> ((1 : Int32).toUInt32 &&& Int32.toUInt32 31)).toInt32) &&& (1431655765 : Int32))).toUInt32 >>> ((2 : Int32).toUInt32 &&& Int32.toUInt32 31)).toInt32) &&& (858993459 : Int32))) + (((((a0 - (((a0.toUInt32 >>> ((1 : Int32).toUInt32 &&& Int32.toUInt32 31)).toInt32) &&& (1431655765 : Int32))) &&& (858993459 : Int32)) + ((((a0 - (((a0.toUInt32 >>> ((1 : Int32).toUInt32 &&& Int32.toUInt32 31)).toInt32) &&& (1431655765 : Int32))).toUInt32 >>> ((2 : Int32).toUInt32 &&& Int32.toUInt32 31)).toInt32) &&& (858993459 : Int32))).toUInt32 >>> ((4 : Int32).toUInt32 &&& Int32.toUInt32 31)).toInt32)) &&& (252645135 : Int32)) + (((((((a0 - (((a0.toUInt32 >>> ((1 : Int32).toUInt32 &&& Int32.toUInt32 31)).toInt32) &&& (1431655765 : Int32))) &&& (858993459 : Int32)) + ((((a0 - (((a0.toUInt32 >>> ((1 : Int32).toUInt32 &&& Int32.toUInt32 31)).toInt32) &&& (1431655765 : Int32))).toUInt32 >>> ((2 : Int32).toUInt32 &&& Int32.toUInt32 31)).toInt32) &&& (858993459 : Int32))) + (((((a0 - (((a0.toUInt32 >>> ((1 : Int32).toUInt32 &&& Int32.toUInt32 31)).toInt32) &&& (1431655765 : Int32))) &&& (858993459 : Int32)) + ((((a0 - (((a0.toUInt32 >>> ((1 : Int32).toUInt32 &&& Int32.toUInt32 31)).toInt32) &&& (1431655765 : Int32))).toUInt32 >>> ((2 : Int32).toUInt32 &&& Int32.toUInt32 31)).toInt32) &&& (858993459 : Int32))).toUInt32 >>> ((4 : Int32).toUInt32 &&& Int32.toUInt32 31)).toInt32)) &&& (252645135 : Int32)).toUInt32 >>> ((8 : Int32).toUInt32 &&& Int32.toUInt32 31)).toInt32)).toUInt32 >>> ((16 : Int32).toUInt32 &&& Int32.toUInt32 31)).toInt32)))] dJ6_bitCount_0f7a4_47 rfl (by decide) rfl rfl ?_
  refine v_iload_n (pc := 48) (i := 0) dJ6_bitCount_0f7a4_48 rfl rfl ?_
  refine v_bipush (pc := 49) (v := (63 : Int32)) dJ6_bitCount_0f7a4_49 rfl ?_
  refine v_iand (pc := 51) dJ6_bitCount_0f7a4_51 ?_
  exact v_iret (pc := 52) dJ6_bitCount_0f7a4_52 rfl rfl (okr hF fun q => q)
/-! BrailleDesk.press -/
theorem tX10_press {G : gG} (a0 : Nat) (a1 : Int32) (h : hp) (Q : hQ) (hF : okB (fX10_press a0 a1 h) (pX gI Q)) : gS G mX10_press 7 2 12 [sr (some a0), si a1] h Q := by
  delta fX10_press at hF
  refine gS_at [some (sr (some a0)), some (si a1), none] pl_X10 rfl (Nat.le_of_ble_eq_true rfl) rfl ?_
  refine v_iload_n (pc := 0) (i := 1) dX10_press_0 rfl rfl ?_
  refine ct_S (pc := 1) gI (as := [si a1]) (st := []) (N := mX10_keyBit) (k := 1) (n := 6) (k1 := 1) (n1 := 6) dX10_press_1 lkX10_211 caX10_keyBit csX10_keyBit rfl (fun Q1 hq => tX10_keyBit a1 h Q1 hq) ⟨by decide, by decide⟩ (Nat.le_of_ble_eq_true rfl) rfl hF (fun E hp => hp) (fun x1 hF => ?_)
  show gV G mX10_press 7 Q 4 [some (sr (some a0)), some (si a1), none] [si x1] (1) (6) h
  refine v_istore_n (pc := 4) (i := 2) [some (sr (some a0)), some (si a1), some (si x1)] dX10_press_4 rfl (by decide) rfl rfl ?_
  refine v_aload_n (pc := 5) (i := 0) dX10_press_5 rfl rfl ?_
  refine s_getI (pc := 6) dX10_press_6 flX10_215 rfl hF (fun x2 hF => ?_)
  refine v_iload_n (pc := 9) (i := 2) dX10_press_9 rfl rfl ?_
  refine v_iand (pc := 10) dX10_press_10 ?_
  refine v_if_eq (pc := 11) 24 dX10_press_11 rfl (fun hc => ?_) (fun hc => ?_)
  · replace hF := (okB_if hF).1 hc
    refine v_aload_n (pc := 24) (i := 0) dX10_press_24 rfl rfl ?_
    refine v_aload_n (pc := 25) (i := 0) dX10_press_25 rfl rfl ?_
    refine s_getI (pc := 26) dX10_press_26 flX10_215 rfl hF (fun x3 hF => ?_)
    refine mg (X := fun q4 => gV G mX10_press 7 Q 42 [some (sr (some a0)), none, some (si x1)] [si q4, sr (some a0)] (0) (0) h) hF (fun _ hj5 hF => ?_) (fun q4 hF => ?_)
    · refine v_if_ne (pc := 29) 36 dX10_press_29 rfl (fun hc => ?_) (fun hc => ?_)
      · replace hF := (okB_if hF).2 hc
        refine v_aload_n (pc := 36) (i := 0) dX10_press_36 rfl rfl ?_
        refine s_getI (pc := 37) dX10_press_37 flX10_220 rfl hF (fun x6 hF => ?_)
        refine v_iload_n (pc := 40) (i := 2) dX10_press_40 rfl rfl ?_
        refine v_ior (pc := 41) dX10_press_41 ?_
        exact v_room (k' := 0) (n' := 0) (by decide) (by decide) <| v_lle [some (sr (some a0)), none, some (si x1)] ⟨rfl, rfl, trivial⟩ (hj5 (x6 ||| x1) (okB_some hF))
      replace hF := (okB_if hF).1 hc
      refine v_iload_n (pc := 32) (i := 2) dX10_press_32 rfl rfl ?_
      refine v_goto (pc := 33) 42 dX10_press_33 rfl ?_
      exact v_room (k' := 0) (n' := 0) (by decide) (by decide) <| v_lle [some (sr (some a0)), none, some (si x1)] ⟨rfl, rfl, trivial⟩ (hj5 x1 (okB_some hF))
    refine s_putI (pc := 42) dX10_press_42 flX10_220 (Or.inl rfl) rfl hF (fun h7 hF => ?_)
    refine v_aload_n (pc := 45) (i := 0) dX10_press_45 rfl rfl ?_
    refine v_dup (pc := 46) dX10_press_46 rfl ?_
    refine s_getI (pc := 47) dX10_press_47 flX10_215 rfl hF (fun x8 hF => ?_)
    refine v_iload_n (pc := 50) (i := 2) dX10_press_50 rfl rfl ?_
    refine v_ior (pc := 51) dX10_press_51 ?_
    refine s_putI (pc := 52) dX10_press_52 flX10_215 (Or.inl rfl) rfl hF (fun h9 hF => ?_)
    refine v_aload_n (pc := 55) (i := 0) dX10_press_55 rfl rfl ?_
    refine s_getI (pc := 56) dX10_press_56 flX10_215 rfl hF (fun x10 hF => ?_)
    refine cp_S (pc := 59) gI (as := [si x10]) (st := []) (N := mJ6_bitCount_0f7a4) (k := 0) (n := 0) (k1 := 0) (n1 := 0) dX10_press_59 lkX10_223 caJ6_bitCount_0f7a4 csJ6_bitCount_0f7a4 rfl (fun Q1 hq => tJ6_bitCount_0f7a4 x10 h9 Q1 hq) ⟨by decide, by decide⟩ (Nat.le_of_ble_eq_true rfl) rfl hF (fun x11 hF => ?_)
    show gV G mX10_press 7 Q 62 [some (sr (some a0)), none, some (si x1)] [si x11] (0) (0) h9
    exact v_iret (pc := 62) dX10_press_62 rfl rfl (okr hF fun q => q)
  replace hF := (okB_if hF).2 hc
  exact v_throw (pc := 14) (k := 0) (n := 0) 28 dX10_press_14 dX10_press_17 dX10_press_18 dX10_press_20 dX10_press_23 rfl tfit_IllegalStateException tnames twX10_63_67 rfl (by decide) (Nat.le_of_ble_eq_true rfl) rfl (okr hF fun q => q)
/-! BrailleDesk.release -/
theorem tX10_release {G : gG} (a0 : Nat) (a1 : Int32) (h : hp) (Q : hQ) (hF : okB (fX10_release a0 a1 h) (pX gI Q)) : gS G mX10_release 9 2 12 [sr (some a0), si a1] h Q := by
  delta fX10_release at hF
  refine gS_at [some (sr (some a0)), some (si a1), none] pl_X10 rfl (Nat.le_of_ble_eq_true rfl) rfl ?_
  refine v_iload_n (pc := 0) (i := 1) dX10_release_0 rfl rfl ?_
  refine ct_S (pc := 1) gI (as := [si a1]) (st := []) (N := mX10_keyBit) (k := 1) (n := 6) (k1 := 1) (n1 := 6) dX10_release_1 lkX10_211 caX10_keyBit csX10_keyBit rfl (fun Q1 hq => tX10_keyBit a1 h Q1 hq) ⟨by decide, by decide⟩ (Nat.le_of_ble_eq_true rfl) rfl hF (fun E hp => hp) (fun x1 hF => ?_)
  show gV G mX10_release 9 Q 4 [some (sr (some a0)), some (si a1), none] [si x1] (1) (6) h
  refine v_istore_n (pc := 4) (i := 2) [some (sr (some a0)), some (si a1), some (si x1)] dX10_release_4 rfl (by decide) rfl rfl ?_
  refine v_aload_n (pc := 5) (i := 0) dX10_release_5 rfl rfl ?_
  refine s_getI (pc := 6) dX10_release_6 flX10_215 rfl hF (fun x2 hF => ?_)
  refine v_iload_n (pc := 9) (i := 2) dX10_release_9 rfl rfl ?_
  refine v_iand (pc := 10) dX10_release_10 ?_
  refine v_if_ne (pc := 11) 24 dX10_release_11 rfl (fun hc => ?_) (fun hc => ?_)
  · replace hF := (okB_if hF).2 hc
    refine v_aload_n (pc := 24) (i := 0) dX10_release_24 rfl rfl ?_
    refine v_dup (pc := 25) dX10_release_25 rfl ?_
    refine s_getI (pc := 26) dX10_release_26 flX10_215 rfl hF (fun x3 hF => ?_)
    refine v_iload_n (pc := 29) (i := 2) dX10_release_29 rfl rfl ?_
    refine v_iconst (pc := 30) (v := (-1 : Int32)) dX10_release_30 rfl ?_
    refine v_ixor (pc := 31) dX10_release_31 ?_
    refine v_iand (pc := 32) dX10_release_32 ?_
    refine s_putI (pc := 33) dX10_release_33 flX10_215 (Or.inl rfl) rfl hF (fun h4 hF => ?_)
    refine v_aload_n (pc := 36) (i := 0) dX10_release_36 rfl rfl ?_
    refine s_getI (pc := 37) dX10_release_37 flX10_215 rfl hF (fun x5 hF => ?_)
    refine mg (X := fun q6 => gV G mX10_release 9 Q 54 [some (sr (some a0)), none, none] [] (0) (0) q6) hF (fun _ hj7 hF => ?_) (fun q6 hF => ?_)
    · refine v_if_ne (pc := 40) 54 dX10_release_40 rfl (fun hc => ?_) (fun hc => ?_)
      · replace hF := (okB_if hF).2 hc
        exact v_room (k' := 0) (n' := 0) (by decide) (by decide) <| v_lle [some (sr (some a0)), none, none] ⟨rfl, trivial⟩ (hj7 h4 (okB_some hF))
      replace hF := (okB_if hF).1 hc
      refine v_aload_n (pc := 43) (i := 0) dX10_release_43 rfl rfl ?_
      refine s_getR (pc := 44) dX10_release_44 flX10_35 rfl hF (fun x8 hF => ?_)
      refine v_aload_n (pc := 47) (i := 0) dX10_release_47 rfl rfl ?_
      refine s_getI (pc := 48) dX10_release_48 flX10_220 rfl hF (fun x9 hF => ?_)
      refine ch_V (pc := 51) gU (as := [si x9]) (st := []) (ci := 4) (N := mX5_obey) (k := 1) (n := 6) (k1 := 0) (n1 := 0) dX10_release_51 lkX10_230 caX5_obey cvX5_obey rfl (by decide) rfl (fun b Q1 hq => tX5_obey b x9 h4 Q1 hq) ⟨by decide, by decide⟩ (Nat.le_of_ble_eq_true rfl) rfl hF (fun x10 h11 hF => ?_)
      show gV G mX10_release 9 Q 54 [some (sr (some a0)), some (si a1), some (si x1)] [] (1) (6) h11
      exact v_room (k' := 0) (n' := 0) (by decide) (by decide) <| v_lle [some (sr (some a0)), none, none] ⟨rfl, trivial⟩ (hj7 h11 (okB_some hF))
    refine v_aload_n (pc := 54) (i := 0) dX10_release_54 rfl rfl ?_
    refine s_getI (pc := 55) dX10_release_55 flX10_215 rfl hF (fun x12 hF => ?_)
    refine cp_S (pc := 58) gI (as := [si x12]) (st := []) (N := mJ6_bitCount_0f7a4) (k := 0) (n := 0) (k1 := 0) (n1 := 0) dX10_release_58 lkX10_223 caJ6_bitCount_0f7a4 csJ6_bitCount_0f7a4 rfl (fun Q1 hq => tJ6_bitCount_0f7a4 x12 q6 Q1 hq) ⟨by decide, by decide⟩ (Nat.le_of_ble_eq_true rfl) rfl hF (fun x13 hF => ?_)
    show gV G mX10_release 9 Q 61 [some (sr (some a0)), none, none] [si x13] (0) (0) q6
    exact v_iret (pc := 61) dX10_release_61 rfl rfl (okr hF fun q => q)
  replace hF := (okB_if hF).1 hc
  exact v_throw (pc := 14) (k := 0) (n := 0) 29 dX10_release_14 dX10_release_17 dX10_release_18 dX10_release_20 dX10_release_23 rfl tfit_IllegalStateException tnames twX10_63_67 rfl (by decide) (Nat.le_of_ble_eq_true rfl) rfl (okr hF fun q => q)
/-! BrailleDesk.chord -/
theorem tX10_chord {G : gG} (a0 : Nat) (a1 : Int32) (h : hp) (Q : hQ) (hF : okB (fX10_chord a0 a1 h) (pX gI Q)) : gS G mX10_chord 9 1 6 [sr (some a0), si a1] h Q := by
  delta fX10_chord at hF
  refine gS_at [some (sr (some a0)), some (si a1)] pl_X10 rfl (Nat.le_of_ble_eq_true rfl) rfl ?_
  refine v_iload_n (pc := 0) (i := 1) dX10_chord_0 rfl rfl ?_
  refine v_iconst (pc := 1) (v := (1 : Int32)) dX10_chord_1 rfl ?_
  refine v_icmp_lt (pc := 2) 12 dX10_chord_2 rfl (fun hc => ?_) (fun hc => ?_)
  · replace hF := (okB_if hF).1 hc
    exact v_throw (pc := 12) (k := 0) (n := 0) 38 dX10_chord_12 dX10_chord_15 dX10_chord_16 dX10_chord_18 dX10_chord_21 rfl tfit_IllegalArgumentException tnames twX10_52_56 rfl (by decide) (Nat.le_of_ble_eq_true rfl) rfl (okr hF fun q => q)
  replace hF := (okB_if hF).2 hc
  refine v_iload_n (pc := 5) (i := 1) dX10_chord_5 rfl rfl ?_
  refine v_sipush (pc := 6) (v := (511 : Int32)) dX10_chord_6 rfl ?_
  refine v_icmp_le (pc := 9) 22 dX10_chord_9 rfl (fun hc => ?_) (fun hc => ?_)
  · replace hF := (okB_if hF).1 hc
    refine v_aload_n (pc := 22) (i := 0) dX10_chord_22 rfl rfl ?_
    refine s_getI (pc := 23) dX10_chord_23 flX10_215 rfl hF (fun x1 hF => ?_)
    refine v_if_eq (pc := 26) 39 dX10_chord_26 rfl (fun hc => ?_) (fun hc => ?_)
    · replace hF := (okB_if hF).1 hc
      refine v_aload_n (pc := 39) (i := 0) dX10_chord_39 rfl rfl ?_
      refine s_getR (pc := 40) dX10_chord_40 flX10_35 rfl hF (fun x2 hF => ?_)
      refine v_iload_n (pc := 43) (i := 1) dX10_chord_43 rfl rfl ?_
      refine ch_V (pc := 44) gU (as := [si a1]) (st := []) (ci := 4) (N := mX5_obey) (k := 1) (n := 6) (k1 := 0) (n1 := 0) dX10_chord_44 lkX10_230 caX5_obey cvX5_obey rfl (by decide) rfl (fun b Q1 hq => tX5_obey b a1 h Q1 hq) ⟨by decide, by decide⟩ (Nat.le_of_ble_eq_true rfl) rfl hF (fun x3 h4 hF => ?_)
      show gV G mX10_chord 9 Q 47 [some (sr (some a0)), some (si a1)] [] (1) (6) h4
      refine v_aload_n (pc := 47) (i := 0) dX10_chord_47 rfl rfl ?_
      refine s_getR (pc := 48) dX10_chord_48 flX10_35 rfl hF (fun x5 hF => ?_)
      refine s_getR (pc := 51) dX10_chord_51 flX10_237 rfl hF (fun x6 hF => ?_)
      refine s_getI (pc := 54) dX10_chord_54 flX10_103 rfl hF (fun x7 hF => ?_)
      exact v_iret (pc := 57) dX10_chord_57 rfl rfl (okr hF fun q => q)
    replace hF := (okB_if hF).2 hc
    exact v_throw (pc := 29) (k := 0) (n := 0) 39 dX10_chord_29 dX10_chord_32 dX10_chord_33 dX10_chord_35 dX10_chord_38 rfl tfit_IllegalStateException tnames twX10_63_67 rfl (by decide) (Nat.le_of_ble_eq_true rfl) rfl (okr hF fun q => q)
  replace hF := (okB_if hF).2 hc
  exact v_throw (pc := 12) (k := 0) (n := 0) 38 dX10_chord_12 dX10_chord_15 dX10_chord_16 dX10_chord_18 dX10_chord_21 rfl tfit_IllegalArgumentException tnames twX10_52_56 rfl (by decide) (Nat.le_of_ble_eq_true rfl) rfl (okr hF fun q => q)
/-! BrailleDesk.cursor -/
theorem tX10_cursor {G : gG} (a0 : Nat) (h : hp) (Q : hQ) (hF : okB (fX10_cursor a0 h) (pP gI Q h)) : gS G mX10_cursor 0 0 0 [sr (some a0)] h Q := by
  delta fX10_cursor at hF
  refine gS_at [some (sr (some a0))] pl_X10 rfl (Nat.le_of_ble_eq_true rfl) rfl ?_
  refine v_aload_n (pc := 0) (i := 0) dX10_cursor_0 rfl rfl ?_
  refine s_getR (pc := 1) dX10_cursor_1 flX10_35 rfl hF (fun x1 hF => ?_)
  refine s_getR (pc := 4) dX10_cursor_4 flX10_237 rfl hF (fun x2 hF => ?_)
  refine s_getI (pc := 7) dX10_cursor_7 flX10_103 rfl hF (fun x3 hF => ?_)
  exact v_iret (pc := 10) dX10_cursor_10 rfl rfl (okr hF fun q => q)
/-! BrailleDesk.focus -/
theorem tX10_focus {G : gG} (a0 : Nat) (h : hp) (Q : hQ) (hF : okB (fX10_focus a0 h) (pP gI Q h)) : gS G mX10_focus 0 0 0 [sr (some a0)] h Q := by
  delta fX10_focus at hF
  refine gS_at [some (sr (some a0)), none] pl_X10 rfl (Nat.le_of_ble_eq_true rfl) rfl ?_
  refine v_aload_n (pc := 0) (i := 0) dX10_focus_0 rfl rfl ?_
  refine s_getR (pc := 1) dX10_focus_1 flX10_35 rfl hF (fun x1 hF => ?_)
  refine s_getR (pc := 4) dX10_focus_4 flX10_240 rfl hF (fun x2 hF => ?_)
  refine v_astore_n (pc := 7) (i := 1) [some (sr (some a0)), some (sr x2)] dX10_focus_7 rfl (by decide) rfl rfl ?_
  refine v_aload_n (pc := 8) (i := 1) dX10_focus_8 rfl rfl ?_
  refine s_ifnonnull (pc := 9) 16 dX10_focus_9 rfl hF (fun hF => ?_) (fun hF => ?_)
  · refine v_aload_n (pc := 16) (i := 1) dX10_focus_16 rfl rfl ?_
    refine s_getI (pc := 17) dX10_focus_17 flX10_103 rfl hF (fun x3 hF => ?_)
    exact v_iret (pc := 20) dX10_focus_20 rfl rfl (okr hF fun q => q)
  refine v_iconst (pc := 12) (v := (-1 : Int32)) dX10_focus_12 rfl ?_
  refine v_goto (pc := 13) 20 dX10_focus_13 rfl ?_
  exact v_iret (pc := 20) dX10_focus_20 rfl rfl (okr hF fun q => q)
/-! BrailleDesk.isTyping -/
theorem tX10_isTyping {G : gG} (a0 : Nat) (h : hp) (Q : hQ) (hF : okB (fX10_isTyping a0 h) (pP gI Q h)) : gS G mX10_isTyping 0 0 0 [sr (some a0)] h Q := by
  delta fX10_isTyping at hF
  refine gS_at [some (sr (some a0))] pl_X10 rfl (Nat.le_of_ble_eq_true rfl) rfl ?_
  refine v_aload_n (pc := 0) (i := 0) dX10_isTyping_0 rfl rfl ?_
  refine s_getR (pc := 1) dX10_isTyping_1 flX10_35 rfl hF (fun x1 hF => ?_)
  refine s_getR (pc := 4) dX10_isTyping_4 flX10_243 rfl hF (fun x2 hF => ?_)
  refine s_getI (pc := 7) dX10_isTyping_7 flX10_247 rfl hF (fun x3 hF => ?_)
  exact s_zret (pc := 10) dX10_isTyping_10 rfl hF (fun hF => (okr hF fun q => q))
/-! BrailleDesk.offset -/
theorem tX10_offset {G : gG} (a0 : Nat) (h : hp) (Q : hQ) (hF : okB (fX10_offset a0 h) (pP gI Q h)) : gS G mX10_offset 0 0 0 [sr (some a0)] h Q := by
  delta fX10_offset at hF
  refine gS_at [some (sr (some a0))] pl_X10 rfl (Nat.le_of_ble_eq_true rfl) rfl ?_
  refine v_aload_n (pc := 0) (i := 0) dX10_offset_0 rfl rfl ?_
  refine s_getR (pc := 1) dX10_offset_1 flX10_35 rfl hF (fun x1 hF => ?_)
  refine s_getR (pc := 4) dX10_offset_4 flX10_252 rfl hF (fun x2 hF => ?_)
  refine s_getI (pc := 7) dX10_offset_7 flX10_256 rfl hF (fun x3 hF => ?_)
  exact v_iret (pc := 10) dX10_offset_10 rfl rfl (okr hF fun q => q)
/-! BrailleDesk.lineLength -/
theorem tX10_lineLength {G : gG} (a0 : Nat) (h : hp) (Q : hQ) (hF : okB (fX10_lineLength a0 h) (pP gI Q h)) : gS G mX10_lineLength 1 0 0 [sr (some a0)] h Q := by
  delta fX10_lineLength at hF
  refine gS_at [some (sr (some a0))] pl_X10 rfl (Nat.le_of_ble_eq_true rfl) rfl ?_
  refine v_aload_n (pc := 0) (i := 0) dX10_lineLength_0 rfl rfl ?_
  refine s_getR (pc := 1) dX10_lineLength_1 flX10_35 rfl hF (fun x1 hF => ?_)
  refine s_getR (pc := 4) dX10_lineLength_4 flX10_252 rfl hF (fun x2 hF => ?_)
  refine s_getR (pc := 7) dX10_lineLength_7 flX10_261 rfl hF (fun x3 hF => ?_)
  refine cp_V (pc := 10) gI (as := []) (st := []) (ci := 0) (N := mX1_size) (k := 0) (n := 0) (k1 := 0) (n1 := 0) dX10_lineLength_10 lkX10_59 caX1_size cvX1_size rfl (by decide) rfl (fun b Q1 hq => tX1_size b h Q1 hq) ⟨by decide, by decide⟩ (Nat.le_of_ble_eq_true rfl) rfl hF (fun x4 hF => ?_)
  show gV G mX10_lineLength 1 Q 13 [some (sr (some a0))] [si x4] (0) (0) h
  exact v_iret (pc := 13) dX10_lineLength_13 rfl rfl (okr hF fun q => q)
/-! BrailleDesk.refuseNoPin -/
theorem tX10_refuseNoPin {G : gG} (a0 : Int32) (h : hp) (Q : hQ) (hF : okB (fX10_refuseNoPin a0) (pC gU Q h)) : gS G mX10_refuseNoPin 6 1 6 [si a0] h Q := by
  delta fX10_refuseNoPin at hF
  refine gS_at [some (si a0)] pl_X10 rfl (Nat.le_of_ble_eq_true rfl) rfl ?_
  refine v_iload_n (pc := 0) (i := 0) dX10_refuseNoPin_0 rfl rfl ?_
  refine v_if_lt (pc := 1) 10 dX10_refuseNoPin_1 rfl (fun hc => ?_) (fun hc => ?_)
  · replace hF := (okB_if hF).1 hc
    exact v_throwW (pc := 10) (k := 0) (n := 0) 40 dX10_refuseNoPin_10 dX10_refuseNoPin_13 dX10_refuseNoPin_14 dX10_refuseNoPin_17 dX10_refuseNoPin_20 rfl tfit_IndexOutOfBoundsException tnames twX10_185_189 rfl (by decide) (Nat.le_of_ble_eq_true rfl) rfl (okr hF fun q => q)
  replace hF := (okB_if hF).2 hc
  refine v_iload_n (pc := 4) (i := 0) dX10_refuseNoPin_4 rfl rfl ?_
  refine v_bipush (pc := 5) (v := (10 : Int32)) dX10_refuseNoPin_5 rfl ?_
  refine v_icmp_lt (pc := 7) 21 dX10_refuseNoPin_7 rfl (fun hc => ?_) (fun hc => ?_)
  · replace hF := (okB_if hF).1 hc
    exact v_ret (pc := 21) dX10_refuseNoPin_21 rfl (okr hF fun q => q)
  replace hF := (okB_if hF).2 hc
  exact v_throwW (pc := 10) (k := 0) (n := 0) 40 dX10_refuseNoPin_10 dX10_refuseNoPin_13 dX10_refuseNoPin_14 dX10_refuseNoPin_17 dX10_refuseNoPin_20 rfl tfit_IndexOutOfBoundsException tnames twX10_185_189 rfl (by decide) (Nat.le_of_ble_eq_true rfl) rfl (okr hF fun q => q)
/-! BrailleDesk.pin -/
theorem tX10_pin {G : gG} (a0 : Nat) (a1 : Int32) (h : hp) (Q : hQ) (hF : okB (fX10_pin a0 a1 h) (pC gI Q h)) : gS G mX10_pin 7 1 6 [sr (some a0), si a1] h Q := by
  delta fX10_pin at hF
  refine gS_at [some (sr (some a0)), some (si a1)] pl_X10 rfl (Nat.le_of_ble_eq_true rfl) rfl ?_
  refine v_iload_n (pc := 0) (i := 1) dX10_pin_0 rfl rfl ?_
  refine ct_S (pc := 1) gU (as := [si a1]) (st := []) (N := mX10_refuseNoPin) (k := 0) (n := 0) (k1 := 1) (n1 := 6) dX10_pin_1 lkX10_264 caX10_refuseNoPin csX10_refuseNoPin rfl (fun Q1 hq => tX10_refuseNoPin a1 h Q1 hq) ⟨by decide, by decide⟩ (Nat.le_of_ble_eq_true rfl) rfl hF (fun E hp => hp) (fun x1 hF => ?_)
  show gV G mX10_pin 7 Q 4 [some (sr (some a0)), some (si a1)] [] (0) (0) h
  refine v_aload_n (pc := 4) (i := 0) dX10_pin_4 rfl rfl ?_
  refine s_getR (pc := 5) dX10_pin_5 flX10_35 rfl hF (fun x2 hF => ?_)
  refine s_getR (pc := 8) dX10_pin_8 flX10_252 rfl hF (fun x3 hF => ?_)
  refine v_iload_n (pc := 11) (i := 1) dX10_pin_11 rfl rfl ?_
  refine cp_V (pc := 12) gI (as := [si a1]) (st := []) (ci := 2) (N := mX3_cell) (k := 0) (n := 0) (k1 := 0) (n1 := 0) dX10_pin_12 lkX10_267 caX3_cell cvX3_cell rfl (by decide) rfl (fun b Q1 hq => tX3_cell b a1 h Q1 hq) ⟨by decide, by decide⟩ (Nat.le_of_ble_eq_true rfl) rfl hF (fun x4 hF => ?_)
  show gV G mX10_pin 7 Q 15 [some (sr (some a0)), some (si a1)] [si x4] (0) (0) h
  exact v_iret (pc := 15) dX10_pin_15 rfl rfl (okr hF fun q => q)
/-! BrailleDesk.pinAnew -/
theorem tX10_pinAnew {G : gG} (a0 : Nat) (a1 : Int32) (h : hp) (Q : hQ) (hF : okB (fX10_pinAnew a0 a1 h) (pX gI Q)) : gS G mX10_pinAnew 8 1 6 [sr (some a0), si a1] h Q := by
  delta fX10_pinAnew at hF
  refine gS_at [some (sr (some a0)), some (si a1)] pl_X10 rfl (Nat.le_of_ble_eq_true rfl) rfl ?_
  refine v_iload_n (pc := 0) (i := 1) dX10_pinAnew_0 rfl rfl ?_
  refine ct_S (pc := 1) gU (as := [si a1]) (st := []) (N := mX10_refuseNoPin) (k := 0) (n := 0) (k1 := 1) (n1 := 6) dX10_pinAnew_1 lkX10_264 caX10_refuseNoPin csX10_refuseNoPin rfl (fun Q1 hq => tX10_refuseNoPin a1 h Q1 hq) ⟨by decide, by decide⟩ (Nat.le_of_ble_eq_true rfl) rfl hF (fun E hp => hp) (fun x1 hF => ?_)
  show gV G mX10_pinAnew 8 Q 4 [some (sr (some a0)), some (si a1)] [] (0) (0) h
  refine v_aload_n (pc := 4) (i := 0) dX10_pinAnew_4 rfl rfl ?_
  refine s_getR (pc := 5) dX10_pinAnew_5 flX10_35 rfl hF (fun x2 hF => ?_)
  refine v_iload_n (pc := 8) (i := 1) dX10_pinAnew_8 rfl rfl ?_
  refine ch_V (pc := 9) gI (as := [si a1]) (st := []) (ci := 4) (N := mX5_cellAnew) (k := 0) (n := 0) (k1 := 0) (n1 := 0) dX10_pinAnew_9 lkX10_270 caX5_cellAnew cvX5_cellAnew rfl (by decide) rfl (fun b Q1 hq => tX5_cellAnew b a1 h Q1 hq) ⟨by decide, by decide⟩ (Nat.le_of_ble_eq_true rfl) rfl hF (fun x3 h4 hF => ?_)
  show gV G mX10_pinAnew 8 Q 12 [some (sr (some a0)), some (si a1)] [si x3] (0) (0) h4
  exact v_iret (pc := 12) dX10_pinAnew_12 rfl rfl (okr hF fun q => q)
/-! BrailleDesk.wordsOf -/
theorem tX10_wordsOf {G : gG} (a0 : Nat) (a1 : (Option Nat)) (h : hp) (Q : hQ) (hF : okB (fX10_wordsOf a0 a1 h) (pX gR Q)) : gS G mX10_wordsOf 7 1 6 [sr (some a0), sr a1] h Q := by
  delta fX10_wordsOf at hF
  refine gS_at [some (sr (some a0)), some (sr a1)] pl_X10 rfl (Nat.le_of_ble_eq_true rfl) rfl ?_
  refine v_aload_n (pc := 0) (i := 1) dX10_wordsOf_0 rfl rfl ?_
  refine cp_V (pc := 1) gI (as := []) (st := []) (ci := 1) (N := mX2_isShownNow) (k := 1) (n := 6) (k1 := 0) (n1 := 0) dX10_wordsOf_1 lkX10_110 caX2_isShownNow cvX2_isShownNow rfl (by decide) rfl (fun b Q1 hq => tX2_isShownNow b h Q1 hq) ⟨by decide, by decide⟩ (Nat.le_of_ble_eq_true rfl) rfl hF (fun x1 hF => ?_)
  show gV G mX10_wordsOf 7 Q 4 [some (sr (some a0)), some (sr a1)] [si x1] (1) (6) h
  refine v_if_ne (pc := 4) 18 dX10_wordsOf_4 rfl (fun hc => ?_) (fun hc => ?_)
  · replace hF := (okB_if hF).2 hc
    refine v_aload_n (pc := 18) (i := 0) dX10_wordsOf_18 rfl rfl ?_
    refine s_getR (pc := 19) dX10_wordsOf_19 flX10_35 rfl hF (fun x2 hF => ?_)
    refine v_aload_n (pc := 22) (i := 1) dX10_wordsOf_22 rfl rfl ?_
    refine ch_V (pc := 23) gR (as := [sr a1]) (st := []) (ci := 4) (N := mX5_wordsOf) (k := 1) (n := 6) (k1 := 0) (n1 := 0) dX10_wordsOf_23 lkX10_333 caX5_wordsOf cvX5_wordsOf rfl (by decide) rfl (fun b Q1 hq => tX5_wordsOf b a1 h Q1 hq) ⟨by decide, by decide⟩ (Nat.le_of_ble_eq_true rfl) rfl hF (fun x3 h4 hF => ?_)
    show gV G mX10_wordsOf 7 Q 26 [some (sr (some a0)), some (sr a1)] [sr x3] (1) (6) h4
    exact v_aret (pc := 26) dX10_wordsOf_26 rfl (Or.inl ⟨_, rfl⟩) (okr hF fun q => q)
  replace hF := (okB_if hF).1 hc
  exact v_throwW (pc := 7) (k := 0) (n := 0) 41 dX10_wordsOf_7 dX10_wordsOf_10 dX10_wordsOf_11 dX10_wordsOf_14 dX10_wordsOf_17 rfl tfit_IllegalStateException tnames twX10_63_67 rfl (by decide) (Nat.le_of_ble_eq_true rfl) rfl (okr hF fun q => q)
/-! BrailleDesk.wordsLength -/
theorem tX10_wordsLength {G : gG} (a0 : Nat) (a1 : Int32) (h : hp) (Q : hQ) (hF : okB (fX10_wordsLength a0 a1 h) (pX gI Q)) : gS G mX10_wordsLength 8 2 12 [sr (some a0), si a1] h Q := by
  delta fX10_wordsLength at hF
  refine gS_at [some (sr (some a0)), some (si a1)] pl_X10 rfl (Nat.le_of_ble_eq_true rfl) rfl ?_
  refine v_aload_n (pc := 0) (i := 0) dX10_wordsLength_0 rfl rfl ?_
  refine v_aload_n (pc := 1) (i := 0) dX10_wordsLength_1 rfl rfl ?_
  refine v_iload_n (pc := 2) (i := 1) dX10_wordsLength_2 rfl rfl ?_
  refine ct_V (pc := 3) gR (as := [si a1]) (st := [sr (some a0)]) (ci := 9) (N := mX10_existing) (k := 1) (n := 6) (k1 := 1) (n1 := 6) dX10_wordsLength_3 lkX10_71 caX10_existing cvX10_existing rfl (by decide) rfl (fun b Q1 hq => tX10_existing b a1 h Q1 hq) ⟨by decide, by decide⟩ (Nat.le_of_ble_eq_true rfl) rfl hF (fun E hp => hp) (fun x1 hF => ?_)
  show gV G mX10_wordsLength 8 Q 6 [some (sr (some a0)), some (si a1)] [sr x1, sr (some a0)] (1) (6) h
  refine cx_V (pc := 6) gR (as := [sr x1]) (st := []) (ci := 9) (N := mX10_wordsOf) (k := 0) (n := 0) (k1 := 1) (n1 := 6) dX10_wordsLength_6 lkX10_273 caX10_wordsOf cvX10_wordsOf rfl (by decide) rfl (fun b Q1 hq => tX10_wordsOf b x1 h Q1 hq) ⟨by decide, by decide⟩ (Nat.le_of_ble_eq_true rfl) rfl hF (fun E h1 hp => hp) (fun x2 h3 hF => ?_)
  show gV G mX10_wordsLength 8 Q 9 [some (sr (some a0)), some (si a1)] [sr x2] (0) (0) h3
  refine cp_V (pc := 9) gI (as := []) (st := []) (ci := 0) (N := mX1_size) (k := 0) (n := 0) (k1 := 0) (n1 := 0) dX10_wordsLength_9 lkX10_59 caX1_size cvX1_size rfl (by decide) rfl (fun b Q1 hq => tX1_size b h3 Q1 hq) ⟨by decide, by decide⟩ (Nat.le_of_ble_eq_true rfl) rfl hF (fun x4 hF => ?_)
  show gV G mX10_wordsLength 8 Q 12 [some (sr (some a0)), some (si a1)] [si x4] (0) (0) h3
  exact v_iret (pc := 12) dX10_wordsLength_12 rfl rfl (okr hF fun q => q)
