/-! ===== methods: their functions and rows ===== -/
theorem dX10_nameAt_0 : decode cX10_nameAt 0 = .ok (.aload_n 0, 1) := by decide +kernel
theorem dX10_nameAt_1 : decode cX10_nameAt 1 = .ok (.iload_n 1, 1) := by decide +kernel
theorem dX10_nameAt_2 : decode cX10_nameAt 2 = .ok (.invokevirtual 71, 3) := by decide +kernel
theorem dX10_nameAt_5 : decode cX10_nameAt 5 = .ok (.getfield 138, 3) := by decide +kernel
theorem dX10_nameAt_8 : decode cX10_nameAt 8 = .ok (.iload_n 2, 1) := by decide +kernel
theorem dX10_nameAt_9 : decode cX10_nameAt 9 = .ok (.invokestatic 190, 3) := by decide +kernel
theorem dX10_nameAt_12 : decode cX10_nameAt 12 = .ok (.ireturn, 1) := by decide +kernel
theorem dX10_contentLength_0 : decode cX10_contentLength 0 = .ok (.aload_n 0, 1) := by decide +kernel
theorem dX10_contentLength_1 : decode cX10_contentLength 1 = .ok (.iload_n 1, 1) := by decide +kernel
theorem dX10_contentLength_2 : decode cX10_contentLength 2 = .ok (.invokevirtual 71, 3) := by decide +kernel
theorem dX10_contentLength_5 : decode cX10_contentLength 5 = .ok (.getfield 194, 3) := by decide +kernel
theorem dX10_contentLength_8 : decode cX10_contentLength 8 = .ok (.invokevirtual 59, 3) := by decide +kernel
theorem dX10_contentLength_11 : decode cX10_contentLength 11 = .ok (.ireturn, 1) := by decide +kernel
theorem dX10_contentAt_0 : decode cX10_contentAt 0 = .ok (.aload_n 0, 1) := by decide +kernel
theorem dX10_contentAt_1 : decode cX10_contentAt 1 = .ok (.iload_n 1, 1) := by decide +kernel
theorem dX10_contentAt_2 : decode cX10_contentAt 2 = .ok (.invokevirtual 71, 3) := by decide +kernel
theorem dX10_contentAt_5 : decode cX10_contentAt 5 = .ok (.getfield 194, 3) := by decide +kernel
theorem dX10_contentAt_8 : decode cX10_contentAt 8 = .ok (.iload_n 2, 1) := by decide +kernel
theorem dX10_contentAt_9 : decode cX10_contentAt 9 = .ok (.invokestatic 190, 3) := by decide +kernel
theorem dX10_contentAt_12 : decode cX10_contentAt 12 = .ok (.ireturn, 1) := by decide +kernel
theorem dX10_isOn_0 : decode cX10_isOn 0 = .ok (.aload_n 0, 1) := by decide +kernel
theorem dX10_isOn_1 : decode cX10_isOn 1 = .ok (.iload_n 1, 1) := by decide +kernel
theorem dX10_isOn_2 : decode cX10_isOn 2 = .ok (.invokevirtual 71, 3) := by decide +kernel
theorem dX10_isOn_5 : decode cX10_isOn 5 = .ok (.getfield 157, 3) := by decide +kernel
theorem dX10_isOn_8 : decode cX10_isOn 8 = .ok (.ireturn, 1) := by decide +kernel
theorem dX10_presses_0 : decode cX10_presses 0 = .ok (.aload_n 0, 1) := by decide +kernel
theorem dX10_presses_1 : decode cX10_presses 1 = .ok (.iload_n 1, 1) := by decide +kernel
theorem dX10_presses_2 : decode cX10_presses 2 = .ok (.invokevirtual 71, 3) := by decide +kernel
theorem dX10_presses_5 : decode cX10_presses 5 = .ok (.getfield 197, 3) := by decide +kernel
theorem dX10_presses_8 : decode cX10_presses 8 = .ok (.ireturn, 1) := by decide +kernel
theorem dX10_isShown_0 : decode cX10_isShown 0 = .ok (.aload_n 0, 1) := by decide +kernel
theorem dX10_isShown_1 : decode cX10_isShown 1 = .ok (.iload_n 1, 1) := by decide +kernel
theorem dX10_isShown_2 : decode cX10_isShown 2 = .ok (.invokevirtual 71, 3) := by decide +kernel
theorem dX10_isShown_5 : decode cX10_isShown 5 = .ok (.invokevirtual 110, 3) := by decide +kernel
theorem dX10_isShown_8 : decode cX10_isShown 8 = .ok (.ireturn, 1) := by decide +kernel
theorem dX10_level_0 : decode cX10_level 0 = .ok (.aload_n 0, 1) := by decide +kernel
theorem dX10_level_1 : decode cX10_level 1 = .ok (.iload_n 1, 1) := by decide +kernel
theorem dX10_level_2 : decode cX10_level 2 = .ok (.invokevirtual 71, 3) := by decide +kernel
theorem dX10_level_5 : decode cX10_level 5 = .ok (.invokevirtual 200, 3) := by decide +kernel
theorem dX10_level_8 : decode cX10_level 8 = .ok (.ireturn, 1) := by decide +kernel
theorem dX10_reading_0 : decode cX10_reading 0 = .ok (.aload_n 0, 1) := by decide +kernel
theorem dX10_reading_1 : decode cX10_reading 1 = .ok (.getfield 10, 3) := by decide +kernel
theorem dX10_reading_4 : decode cX10_reading 4 = .ok (.getfield 203, 3) := by decide +kernel
theorem dX10_reading_7 : decode cX10_reading 7 = .ok (.ireturn, 1) := by decide +kernel
theorem dX10_readingAt_0 : decode cX10_readingAt 0 = .ok (.aload_n 0, 1) := by decide +kernel
theorem dX10_readingAt_1 : decode cX10_readingAt 1 = .ok (.getfield 10, 3) := by decide +kernel
theorem dX10_readingAt_4 : decode cX10_readingAt 4 = .ok (.iload_n 1, 1) := by decide +kernel
theorem dX10_readingAt_5 : decode cX10_readingAt 5 = .ok (.invokevirtual 206, 3) := by decide +kernel
theorem dX10_readingAt_8 : decode cX10_readingAt 8 = .ok (.astore_n 2, 1) := by decide +kernel
theorem dX10_readingAt_9 : decode cX10_readingAt 9 = .ok (.aload_n 2, 1) := by decide +kernel
theorem dX10_readingAt_10 : decode cX10_readingAt 10 = .ok (.ifnonnull 13, 3) := by decide +kernel
theorem dX10_readingAt_13 : decode cX10_readingAt 13 = .ok (.new 185, 3) := by decide +kernel
theorem dX10_readingAt_16 : decode cX10_readingAt 16 = .ok (.dup, 1) := by decide +kernel
theorem dX10_readingAt_17 : decode cX10_readingAt 17 = .ok (.ldc 209, 2) := by decide +kernel
theorem dX10_readingAt_19 : decode cX10_readingAt 19 = .ok (.invokespecial 189, 3) := by decide +kernel
theorem dX10_readingAt_22 : decode cX10_readingAt 22 = .ok (.athrow, 1) := by decide +kernel
theorem dX10_readingAt_23 : decode cX10_readingAt 23 = .ok (.aload_n 2, 1) := by decide +kernel
theorem dX10_readingAt_24 : decode cX10_readingAt 24 = .ok (.getfield 103, 3) := by decide +kernel
theorem dX10_readingAt_27 : decode cX10_readingAt 27 = .ok (.ireturn, 1) := by decide +kernel
theorem dX10_keyBit_0 : decode cX10_keyBit 0 = .ok (.iload_n 0, 1) := by decide +kernel
theorem dX10_keyBit_1 : decode cX10_keyBit 1 = .ok (.ifCond .lt 9, 3) := by decide +kernel
theorem dX10_keyBit_4 : decode cX10_keyBit 4 = .ok (.iload_n 0, 1) := by decide +kernel
theorem dX10_keyBit_5 : decode cX10_keyBit 5 = .ok (.bipush 8, 2) := by decide +kernel
theorem dX10_keyBit_7 : decode cX10_keyBit 7 = .ok (.if_icmp .le 14, 3) := by decide +kernel
theorem dX10_keyBit_10 : decode cX10_keyBit 10 = .ok (.new 185, 3) := by decide +kernel
theorem dX10_keyBit_13 : decode cX10_keyBit 13 = .ok (.dup, 1) := by decide +kernel
theorem dX10_keyBit_14 : decode cX10_keyBit 14 = .ok (.ldc_w 324, 3) := by decide +kernel
theorem dX10_keyBit_17 : decode cX10_keyBit 17 = .ok (.invokespecial 189, 3) := by decide +kernel
theorem dX10_keyBit_20 : decode cX10_keyBit 20 = .ok (.athrow, 1) := by decide +kernel
theorem dX10_keyBit_21 : decode cX10_keyBit 21 = .ok (.iconst 1, 1) := by decide +kernel
theorem dX10_keyBit_22 : decode cX10_keyBit 22 = .ok (.iload_n 0, 1) := by decide +kernel
theorem dX10_keyBit_23 : decode cX10_keyBit 23 = .ok (.ishl, 1) := by decide +kernel
theorem dX10_keyBit_24 : decode cX10_keyBit 24 = .ok (.ireturn, 1) := by decide +kernel
theorem dJ6_bitCount_0f7a4_0 : decode cJ6_bitCount_0f7a4 0 = .ok (.iload_n 0, 1) := by decide +kernel
theorem dJ6_bitCount_0f7a4_1 : decode cJ6_bitCount_0f7a4 1 = .ok (.iload_n 0, 1) := by decide +kernel
theorem dJ6_bitCount_0f7a4_2 : decode cJ6_bitCount_0f7a4 2 = .ok (.iconst 1, 1) := by decide +kernel
theorem dJ6_bitCount_0f7a4_3 : decode cJ6_bitCount_0f7a4 3 = .ok (.iushr, 1) := by decide +kernel
theorem dJ6_bitCount_0f7a4_4 : decode cJ6_bitCount_0f7a4 4 = .ok (.ldc_w 265, 3) := by decide +kernel
theorem dJ6_bitCount_0f7a4_7 : decode cJ6_bitCount_0f7a4 7 = .ok (.iand, 1) := by decide +kernel
theorem dJ6_bitCount_0f7a4_8 : decode cJ6_bitCount_0f7a4 8 = .ok (.isub, 1) := by decide +kernel
theorem dJ6_bitCount_0f7a4_9 : decode cJ6_bitCount_0f7a4 9 = .ok (.istore_n 0, 1) := by decide +kernel
theorem dJ6_bitCount_0f7a4_10 : decode cJ6_bitCount_0f7a4 10 = .ok (.iload_n 0, 1) := by decide +kernel
theorem dJ6_bitCount_0f7a4_11 : decode cJ6_bitCount_0f7a4 11 = .ok (.ldc_w 266, 3) := by decide +kernel
theorem dJ6_bitCount_0f7a4_14 : decode cJ6_bitCount_0f7a4 14 = .ok (.iand, 1) := by decide +kernel
theorem dJ6_bitCount_0f7a4_15 : decode cJ6_bitCount_0f7a4 15 = .ok (.iload_n 0, 1) := by decide +kernel
theorem dJ6_bitCount_0f7a4_16 : decode cJ6_bitCount_0f7a4 16 = .ok (.iconst 2, 1) := by decide +kernel
theorem dJ6_bitCount_0f7a4_17 : decode cJ6_bitCount_0f7a4 17 = .ok (.iushr, 1) := by decide +kernel
theorem dJ6_bitCount_0f7a4_18 : decode cJ6_bitCount_0f7a4 18 = .ok (.ldc_w 266, 3) := by decide +kernel
theorem dJ6_bitCount_0f7a4_21 : decode cJ6_bitCount_0f7a4 21 = .ok (.iand, 1) := by decide +kernel
theorem dJ6_bitCount_0f7a4_22 : decode cJ6_bitCount_0f7a4 22 = .ok (.iadd, 1) := by decide +kernel
theorem dJ6_bitCount_0f7a4_23 : decode cJ6_bitCount_0f7a4 23 = .ok (.istore_n 0, 1) := by decide +kernel
theorem dJ6_bitCount_0f7a4_24 : decode cJ6_bitCount_0f7a4 24 = .ok (.iload_n 0, 1) := by decide +kernel
theorem dJ6_bitCount_0f7a4_25 : decode cJ6_bitCount_0f7a4 25 = .ok (.iload_n 0, 1) := by decide +kernel
theorem dJ6_bitCount_0f7a4_26 : decode cJ6_bitCount_0f7a4 26 = .ok (.iconst 4, 1) := by decide +kernel
theorem dJ6_bitCount_0f7a4_27 : decode cJ6_bitCount_0f7a4 27 = .ok (.iushr, 1) := by decide +kernel
theorem dJ6_bitCount_0f7a4_28 : decode cJ6_bitCount_0f7a4 28 = .ok (.iadd, 1) := by decide +kernel
theorem dJ6_bitCount_0f7a4_29 : decode cJ6_bitCount_0f7a4 29 = .ok (.ldc_w 267, 3) := by decide +kernel
theorem dJ6_bitCount_0f7a4_32 : decode cJ6_bitCount_0f7a4 32 = .ok (.iand, 1) := by decide +kernel
theorem dJ6_bitCount_0f7a4_33 : decode cJ6_bitCount_0f7a4 33 = .ok (.istore_n 0, 1) := by decide +kernel
theorem dJ6_bitCount_0f7a4_34 : decode cJ6_bitCount_0f7a4 34 = .ok (.iload_n 0, 1) := by decide +kernel
theorem dJ6_bitCount_0f7a4_35 : decode cJ6_bitCount_0f7a4 35 = .ok (.iload_n 0, 1) := by decide +kernel
theorem dJ6_bitCount_0f7a4_36 : decode cJ6_bitCount_0f7a4 36 = .ok (.bipush 8, 2) := by decide +kernel
theorem dJ6_bitCount_0f7a4_38 : decode cJ6_bitCount_0f7a4 38 = .ok (.iushr, 1) := by decide +kernel
theorem dJ6_bitCount_0f7a4_39 : decode cJ6_bitCount_0f7a4 39 = .ok (.iadd, 1) := by decide +kernel
theorem dJ6_bitCount_0f7a4_40 : decode cJ6_bitCount_0f7a4 40 = .ok (.istore_n 0, 1) := by decide +kernel
theorem dJ6_bitCount_0f7a4_41 : decode cJ6_bitCount_0f7a4 41 = .ok (.iload_n 0, 1) := by decide +kernel
theorem dJ6_bitCount_0f7a4_42 : decode cJ6_bitCount_0f7a4 42 = .ok (.iload_n 0, 1) := by decide +kernel
theorem dJ6_bitCount_0f7a4_43 : decode cJ6_bitCount_0f7a4 43 = .ok (.bipush 16, 2) := by decide +kernel
theorem dJ6_bitCount_0f7a4_45 : decode cJ6_bitCount_0f7a4 45 = .ok (.iushr, 1) := by decide +kernel
theorem dJ6_bitCount_0f7a4_46 : decode cJ6_bitCount_0f7a4 46 = .ok (.iadd, 1) := by decide +kernel
theorem dJ6_bitCount_0f7a4_47 : decode cJ6_bitCount_0f7a4 47 = .ok (.istore_n 0, 1) := by decide +kernel
theorem dJ6_bitCount_0f7a4_48 : decode cJ6_bitCount_0f7a4 48 = .ok (.iload_n 0, 1) := by decide +kernel
theorem dJ6_bitCount_0f7a4_49 : decode cJ6_bitCount_0f7a4 49 = .ok (.bipush 63, 2) := by decide +kernel
theorem dJ6_bitCount_0f7a4_51 : decode cJ6_bitCount_0f7a4 51 = .ok (.iand, 1) := by decide +kernel
theorem dJ6_bitCount_0f7a4_52 : decode cJ6_bitCount_0f7a4 52 = .ok (.ireturn, 1) := by decide +kernel
theorem dX10_press_0 : decode cX10_press 0 = .ok (.iload_n 1, 1) := by decide +kernel
theorem dX10_press_1 : decode cX10_press 1 = .ok (.invokestatic 211, 3) := by decide +kernel
theorem dX10_press_4 : decode cX10_press 4 = .ok (.istore_n 2, 1) := by decide +kernel
theorem dX10_press_5 : decode cX10_press 5 = .ok (.aload_n 0, 1) := by decide +kernel
theorem dX10_press_6 : decode cX10_press 6 = .ok (.getfield 215, 3) := by decide +kernel
theorem dX10_press_9 : decode cX10_press 9 = .ok (.iload_n 2, 1) := by decide +kernel
theorem dX10_press_10 : decode cX10_press 10 = .ok (.iand, 1) := by decide +kernel
theorem dX10_press_11 : decode cX10_press 11 = .ok (.ifCond .eq 13, 3) := by decide +kernel
theorem dX10_press_14 : decode cX10_press 14 = .ok (.new 63, 3) := by decide +kernel
theorem dX10_press_17 : decode cX10_press 17 = .ok (.dup, 1) := by decide +kernel
theorem dX10_press_18 : decode cX10_press 18 = .ok (.ldc 218, 2) := by decide +kernel
theorem dX10_press_20 : decode cX10_press 20 = .ok (.invokespecial 67, 3) := by decide +kernel
theorem dX10_press_23 : decode cX10_press 23 = .ok (.athrow, 1) := by decide +kernel
theorem dX10_press_24 : decode cX10_press 24 = .ok (.aload_n 0, 1) := by decide +kernel
theorem dX10_press_25 : decode cX10_press 25 = .ok (.aload_n 0, 1) := by decide +kernel
theorem dX10_press_26 : decode cX10_press 26 = .ok (.getfield 215, 3) := by decide +kernel
theorem dX10_press_29 : decode cX10_press 29 = .ok (.ifCond .ne 7, 3) := by decide +kernel
theorem dX10_press_32 : decode cX10_press 32 = .ok (.iload_n 2, 1) := by decide +kernel
theorem dX10_press_33 : decode cX10_press 33 = .ok (.goto 9, 3) := by decide +kernel
theorem dX10_press_36 : decode cX10_press 36 = .ok (.aload_n 0, 1) := by decide +kernel
theorem dX10_press_37 : decode cX10_press 37 = .ok (.getfield 220, 3) := by decide +kernel
theorem dX10_press_40 : decode cX10_press 40 = .ok (.iload_n 2, 1) := by decide +kernel
theorem dX10_press_41 : decode cX10_press 41 = .ok (.ior, 1) := by decide +kernel
theorem dX10_press_42 : decode cX10_press 42 = .ok (.putfield 220, 3) := by decide +kernel
theorem dX10_press_45 : decode cX10_press 45 = .ok (.aload_n 0, 1) := by decide +kernel
theorem dX10_press_46 : decode cX10_press 46 = .ok (.dup, 1) := by decide +kernel
theorem dX10_press_47 : decode cX10_press 47 = .ok (.getfield 215, 3) := by decide +kernel
theorem dX10_press_50 : decode cX10_press 50 = .ok (.iload_n 2, 1) := by decide +kernel
theorem dX10_press_51 : decode cX10_press 51 = .ok (.ior, 1) := by decide +kernel
theorem dX10_press_52 : decode cX10_press 52 = .ok (.putfield 215, 3) := by decide +kernel
theorem dX10_press_55 : decode cX10_press 55 = .ok (.aload_n 0, 1) := by decide +kernel
theorem dX10_press_56 : decode cX10_press 56 = .ok (.getfield 215, 3) := by decide +kernel
theorem dX10_press_59 : decode cX10_press 59 = .ok (.invokestatic 223, 3) := by decide +kernel
theorem dX10_press_62 : decode cX10_press 62 = .ok (.ireturn, 1) := by decide +kernel
theorem dX10_release_0 : decode cX10_release 0 = .ok (.iload_n 1, 1) := by decide +kernel
theorem dX10_release_1 : decode cX10_release 1 = .ok (.invokestatic 211, 3) := by decide +kernel
theorem dX10_release_4 : decode cX10_release 4 = .ok (.istore_n 2, 1) := by decide +kernel
theorem dX10_release_5 : decode cX10_release 5 = .ok (.aload_n 0, 1) := by decide +kernel
theorem dX10_release_6 : decode cX10_release 6 = .ok (.getfield 215, 3) := by decide +kernel
theorem dX10_release_9 : decode cX10_release 9 = .ok (.iload_n 2, 1) := by decide +kernel
theorem dX10_release_10 : decode cX10_release 10 = .ok (.iand, 1) := by decide +kernel
theorem dX10_release_11 : decode cX10_release 11 = .ok (.ifCond .ne 13, 3) := by decide +kernel
theorem dX10_release_14 : decode cX10_release 14 = .ok (.new 63, 3) := by decide +kernel
theorem dX10_release_17 : decode cX10_release 17 = .ok (.dup, 1) := by decide +kernel
theorem dX10_release_18 : decode cX10_release 18 = .ok (.ldc 228, 2) := by decide +kernel
theorem dX10_release_20 : decode cX10_release 20 = .ok (.invokespecial 67, 3) := by decide +kernel
theorem dX10_release_23 : decode cX10_release 23 = .ok (.athrow, 1) := by decide +kernel
theorem dX10_release_24 : decode cX10_release 24 = .ok (.aload_n 0, 1) := by decide +kernel
theorem dX10_release_25 : decode cX10_release 25 = .ok (.dup, 1) := by decide +kernel
theorem dX10_release_26 : decode cX10_release 26 = .ok (.getfield 215, 3) := by decide +kernel
theorem dX10_release_29 : decode cX10_release 29 = .ok (.iload_n 2, 1) := by decide +kernel
theorem dX10_release_30 : decode cX10_release 30 = .ok (.iconst (-1), 1) := by decide +kernel
theorem dX10_release_31 : decode cX10_release 31 = .ok (.ixor, 1) := by decide +kernel
theorem dX10_release_32 : decode cX10_release 32 = .ok (.iand, 1) := by decide +kernel
theorem dX10_release_33 : decode cX10_release 33 = .ok (.putfield 215, 3) := by decide +kernel
theorem dX10_release_36 : decode cX10_release 36 = .ok (.aload_n 0, 1) := by decide +kernel
theorem dX10_release_37 : decode cX10_release 37 = .ok (.getfield 215, 3) := by decide +kernel
theorem dX10_release_40 : decode cX10_release 40 = .ok (.ifCond .ne 14, 3) := by decide +kernel
theorem dX10_release_43 : decode cX10_release 43 = .ok (.aload_n 0, 1) := by decide +kernel
theorem dX10_release_44 : decode cX10_release 44 = .ok (.getfield 35, 3) := by decide +kernel
theorem dX10_release_47 : decode cX10_release 47 = .ok (.aload_n 0, 1) := by decide +kernel
theorem dX10_release_48 : decode cX10_release 48 = .ok (.getfield 220, 3) := by decide +kernel
theorem dX10_release_51 : decode cX10_release 51 = .ok (.invokevirtual 230, 3) := by decide +kernel
theorem dX10_release_54 : decode cX10_release 54 = .ok (.aload_n 0, 1) := by decide +kernel
theorem dX10_release_55 : decode cX10_release 55 = .ok (.getfield 215, 3) := by decide +kernel
theorem dX10_release_58 : decode cX10_release 58 = .ok (.invokestatic 223, 3) := by decide +kernel
theorem dX10_release_61 : decode cX10_release 61 = .ok (.ireturn, 1) := by decide +kernel
theorem dX10_chord_0 : decode cX10_chord 0 = .ok (.iload_n 1, 1) := by decide +kernel
theorem dX10_chord_1 : decode cX10_chord 1 = .ok (.iconst 1, 1) := by decide +kernel
theorem dX10_chord_2 : decode cX10_chord 2 = .ok (.if_icmp .lt 10, 3) := by decide +kernel
theorem dX10_chord_5 : decode cX10_chord 5 = .ok (.iload_n 1, 1) := by decide +kernel
theorem dX10_chord_6 : decode cX10_chord 6 = .ok (.sipush 511, 3) := by decide +kernel
theorem dX10_chord_9 : decode cX10_chord 9 = .ok (.if_icmp .le 13, 3) := by decide +kernel
theorem dX10_chord_12 : decode cX10_chord 12 = .ok (.new 52, 3) := by decide +kernel
theorem dX10_chord_15 : decode cX10_chord 15 = .ok (.dup, 1) := by decide +kernel
theorem dX10_chord_16 : decode cX10_chord 16 = .ok (.ldc 233, 2) := by decide +kernel
theorem dX10_chord_18 : decode cX10_chord 18 = .ok (.invokespecial 56, 3) := by decide +kernel
theorem dX10_chord_21 : decode cX10_chord 21 = .ok (.athrow, 1) := by decide +kernel
theorem dX10_chord_22 : decode cX10_chord 22 = .ok (.aload_n 0, 1) := by decide +kernel
theorem dX10_chord_23 : decode cX10_chord 23 = .ok (.getfield 215, 3) := by decide +kernel
theorem dX10_chord_26 : decode cX10_chord 26 = .ok (.ifCond .eq 13, 3) := by decide +kernel
theorem dX10_chord_29 : decode cX10_chord 29 = .ok (.new 63, 3) := by decide +kernel
theorem dX10_chord_32 : decode cX10_chord 32 = .ok (.dup, 1) := by decide +kernel
theorem dX10_chord_33 : decode cX10_chord 33 = .ok (.ldc 235, 2) := by decide +kernel
theorem dX10_chord_35 : decode cX10_chord 35 = .ok (.invokespecial 67, 3) := by decide +kernel
theorem dX10_chord_38 : decode cX10_chord 38 = .ok (.athrow, 1) := by decide +kernel
theorem dX10_chord_39 : decode cX10_chord 39 = .ok (.aload_n 0, 1) := by decide +kernel
theorem dX10_chord_40 : decode cX10_chord 40 = .ok (.getfield 35, 3) := by decide +kernel
theorem dX10_chord_43 : decode cX10_chord 43 = .ok (.iload_n 1, 1) := by decide +kernel
theorem dX10_chord_44 : decode cX10_chord 44 = .ok (.invokevirtual 230, 3) := by decide +kernel
theorem dX10_chord_47 : decode cX10_chord 47 = .ok (.aload_n 0, 1) := by decide +kernel
theorem dX10_chord_48 : decode cX10_chord 48 = .ok (.getfield 35, 3) := by decide +kernel
theorem dX10_chord_51 : decode cX10_chord 51 = .ok (.getfield 237, 3) := by decide +kernel
theorem dX10_chord_54 : decode cX10_chord 54 = .ok (.getfield 103, 3) := by decide +kernel
theorem dX10_chord_57 : decode cX10_chord 57 = .ok (.ireturn, 1) := by decide +kernel
theorem dX10_cursor_0 : decode cX10_cursor 0 = .ok (.aload_n 0, 1) := by decide +kernel
theorem dX10_cursor_1 : decode cX10_cursor 1 = .ok (.getfield 35, 3) := by decide +kernel
theorem dX10_cursor_4 : decode cX10_cursor 4 = .ok (.getfield 237, 3) := by decide +kernel
theorem dX10_cursor_7 : decode cX10_cursor 7 = .ok (.getfield 103, 3) := by decide +kernel
theorem dX10_cursor_10 : decode cX10_cursor 10 = .ok (.ireturn, 1) := by decide +kernel
abbrev mX10_nameAt : gM := (yX10_nameAt, cX10_nameAt, 3, (Option.some FieldType.int), [])
theorem caX10_nameAt : cal mX10_nameAt 2 := ⟨xw 1036 (by decide +kernel) rfl, xw 87 (by decide +kernel) rfl, by decide, by decide +kernel⟩
theorem cvX10_nameAt : calV mX10_nameAt := ⟨xw 1034 (by decide +kernel) rfl, xw 1035 (by decide +kernel) rfl⟩
abbrev mX10_contentLength : gM := (yX10_contentLength, cX10_contentLength, 2, (Option.some FieldType.int), [])
theorem caX10_contentLength : cal mX10_contentLength 1 := ⟨xw 1048 (by decide +kernel) rfl, xw 87 (by decide +kernel) rfl, by decide, by decide +kernel⟩
theorem cvX10_contentLength : calV mX10_contentLength := ⟨xw 1046 (by decide +kernel) rfl, xw 1047 (by decide +kernel) rfl⟩
abbrev mX10_contentAt : gM := (yX10_contentAt, cX10_contentAt, 3, (Option.some FieldType.int), [])
theorem caX10_contentAt : cal mX10_contentAt 2 := ⟨xw 1055 (by decide +kernel) rfl, xw 87 (by decide +kernel) rfl, by decide, by decide +kernel⟩
theorem cvX10_contentAt : calV mX10_contentAt := ⟨xw 1053 (by decide +kernel) rfl, xw 1054 (by decide +kernel) rfl⟩
abbrev mX10_isOn : gM := (yX10_isOn, cX10_isOn, 2, (Option.some FieldType.boolean), [])
theorem caX10_isOn : cal mX10_isOn 1 := ⟨xw 1062 (by decide +kernel) rfl, xw 87 (by decide +kernel) rfl, by decide, by decide +kernel⟩
theorem cvX10_isOn : calV mX10_isOn := ⟨xw 1060 (by decide +kernel) rfl, xw 1061 (by decide +kernel) rfl⟩
abbrev mX10_presses : gM := (yX10_presses, cX10_presses, 2, (Option.some FieldType.int), [])
theorem caX10_presses : cal mX10_presses 1 := ⟨xw 1069 (by decide +kernel) rfl, xw 87 (by decide +kernel) rfl, by decide, by decide +kernel⟩
theorem cvX10_presses : calV mX10_presses := ⟨xw 1067 (by decide +kernel) rfl, xw 1068 (by decide +kernel) rfl⟩
abbrev mX10_isShown : gM := (yX10_isShown, cX10_isShown, 2, (Option.some FieldType.boolean), [])
theorem caX10_isShown : cal mX10_isShown 1 := ⟨xw 1076 (by decide +kernel) rfl, xw 87 (by decide +kernel) rfl, by decide, by decide +kernel⟩
theorem cvX10_isShown : calV mX10_isShown := ⟨xw 1074 (by decide +kernel) rfl, xw 1075 (by decide +kernel) rfl⟩
abbrev mX10_level : gM := (yX10_level, cX10_level, 2, (Option.some FieldType.int), [])
theorem caX10_level : cal mX10_level 1 := ⟨xw 1083 (by decide +kernel) rfl, xw 87 (by decide +kernel) rfl, by decide, by decide +kernel⟩
theorem cvX10_level : calV mX10_level := ⟨xw 1081 (by decide +kernel) rfl, xw 1082 (by decide +kernel) rfl⟩
abbrev mX10_reading : gM := (yX10_reading, cX10_reading, 1, (Option.some FieldType.int), [])
theorem caX10_reading : cal mX10_reading 0 := ⟨xw 545 (by decide +kernel) rfl, xw 87 (by decide +kernel) rfl, by decide, by decide +kernel⟩
theorem cvX10_reading : calV mX10_reading := ⟨xw 543 (by decide +kernel) rfl, xw 544 (by decide +kernel) rfl⟩
abbrev mX10_readingAt : gM := (yX10_readingAt, cX10_readingAt, 3, (Option.some FieldType.int), [])
theorem caX10_readingAt : cal mX10_readingAt 1 := ⟨xw 1091 (by decide +kernel) rfl, xw 87 (by decide +kernel) rfl, by decide, by decide +kernel⟩
theorem cvX10_readingAt : calV mX10_readingAt := ⟨xw 1089 (by decide +kernel) rfl, xw 1090 (by decide +kernel) rfl⟩
abbrev mX10_keyBit : gM := (yX10_keyBit, cX10_keyBit, 1, (Option.some FieldType.int), [])
theorem caX10_keyBit : cal mX10_keyBit 1 := ⟨xw 1106 (by decide +kernel) rfl, xw 87 (by decide +kernel) rfl, by decide, by decide +kernel⟩
theorem csX10_keyBit : Cond.static yX10_keyBit ∈ XW := xw 1105 (by decide +kernel) rfl
abbrev mJ6_bitCount_0f7a4 : gM := (yJ6_bitCount_0f7a4, cJ6_bitCount_0f7a4, 1, (Option.some FieldType.int), [])
theorem caJ6_bitCount_0f7a4 : cal mJ6_bitCount_0f7a4 1 := ⟨xw 1111 (by decide +kernel) rfl, xw 109 (by decide +kernel) rfl, by decide, by decide +kernel⟩
theorem csJ6_bitCount_0f7a4 : Cond.static yJ6_bitCount_0f7a4 ∈ XW := xw 1110 (by decide +kernel) rfl
abbrev mX10_press : gM := (yX10_press, cX10_press, 3, (Option.some FieldType.int), [])
theorem caX10_press : cal mX10_press 1 := ⟨xw 1103 (by decide +kernel) rfl, xw 87 (by decide +kernel) rfl, by decide, by decide +kernel⟩
theorem cvX10_press : calV mX10_press := ⟨xw 1101 (by decide +kernel) rfl, xw 1102 (by decide +kernel) rfl⟩
abbrev mX10_release : gM := (yX10_release, cX10_release, 3, (Option.some FieldType.int), [])
theorem caX10_release : cal mX10_release 1 := ⟨xw 1121 (by decide +kernel) rfl, xw 87 (by decide +kernel) rfl, by decide, by decide +kernel⟩
theorem cvX10_release : calV mX10_release := ⟨xw 1119 (by decide +kernel) rfl, xw 1120 (by decide +kernel) rfl⟩
abbrev mX10_chord : gM := (yX10_chord, cX10_chord, 2, (Option.some FieldType.int), [])
theorem caX10_chord : cal mX10_chord 1 := ⟨xw 1284 (by decide +kernel) rfl, xw 87 (by decide +kernel) rfl, by decide, by decide +kernel⟩
theorem cvX10_chord : calV mX10_chord := ⟨xw 1282 (by decide +kernel) rfl, xw 1283 (by decide +kernel) rfl⟩
abbrev mX10_cursor : gM := (yX10_cursor, cX10_cursor, 1, (Option.some FieldType.int), [])
theorem caX10_cursor : cal mX10_cursor 0 := ⟨xw 549 (by decide +kernel) rfl, xw 87 (by decide +kernel) rfl, by decide, by decide +kernel⟩
theorem cvX10_cursor : calV mX10_cursor := ⟨xw 547 (by decide +kernel) rfl, xw 548 (by decide +kernel) rfl⟩
theorem lkX10_190 : Cond.methodLink RX10 190 yX10_codeAt ∈ XW := xw 1037 (by decide +kernel) rfl
theorem flX10_194 : fl RX10 194 1 6 := ⟨by decide, by decide, xw 168 (by decide +kernel) rfl⟩
theorem flX10_197 : fl RX10 197 1 9 := ⟨by decide, by decide, xw 178 (by decide +kernel) rfl⟩
theorem lkX10_200 : Cond.methodLink RX10 200 yX2_levelNow ∈ XW := xw 1084 (by decide +kernel) rfl
theorem flX10_203 : fl RX10 203 6 5 := ⟨by decide, by decide, xw 227 (by decide +kernel) rfl⟩
theorem lkX10_206 : Cond.methodLink RX10 206 yX7_inOrder ∈ XW := xw 1092 (by decide +kernel) rfl
theorem ctJ6_265 : Cond.constant RJ6 265 (1431655765 : Int32) ∈ XW := xw 1112 (by decide +kernel) rfl
theorem ctJ6_266 : Cond.constant RJ6 266 (858993459 : Int32) ∈ XW := xw 1113 (by decide +kernel) rfl
theorem ctJ6_267 : Cond.constant RJ6 267 (252645135 : Int32) ∈ XW := xw 1114 (by decide +kernel) rfl
theorem pl_J6 : plainName RJ6 = true := by decide +kernel
theorem lkX10_211 : Cond.methodLink RX10 211 yX10_keyBit ∈ XW := xw 1104 (by decide +kernel) rfl
theorem flX10_215 : fl RX10 215 9 5 := ⟨by decide, by decide, xw 521 (by decide +kernel) rfl⟩
theorem flX10_220 : fl RX10 220 9 6 := ⟨by decide, by decide, xw 522 (by decide +kernel) rfl⟩
theorem lkX10_223 : Cond.methodLink RX10 223 yJ6_bitCount_0f7a4 ∈ XW := xw 1109 (by decide +kernel) rfl
theorem lkX10_230 : Cond.methodLink RX10 230 yX5_obey ∈ XW := xw 1123 (by decide +kernel) rfl
theorem flX10_237 : fl RX10 237 4 5 := ⟨by decide, by decide, xw 495 (by decide +kernel) rfl⟩
/-! BrailleDesk.nameAt -/
def fX10_nameAt (a0 : Nat) (a1 : Int32) (a2 : Int32) (h : hp) : Option (Int32 ⊕ String) :=
  (oOb 9 (some a0) h).bind fun b =>
  oC (fX10_existing b a1 h) (fun E => .inr E) fun x1 =>
  (oGR 1 5 x1 h).bind fun x2 =>
  oC (fX10_codeAt x2 a2 h) (fun E => .inr E) fun x3 =>
  some (.inl x3)
theorem tX10_nameAt {G : gG} (a0 : Nat) (a1 : Int32) (a2 : Int32) (h : hp) (Q : hQ) (hF : okB (fX10_nameAt a0 a1 a2 h) (pC gI Q h)) : gS G mX10_nameAt 7 2 12 [sr (some a0), si a1, si a2] h Q := by
  delta fX10_nameAt at hF
  refine gS_at [some (sr (some a0)), some (si a1), some (si a2)] pl_X10 rfl (Nat.le_of_ble_eq_true rfl) rfl ?_
  refine v_aload_n (pc := 0) (i := 0) dX10_nameAt_0 rfl rfl ?_
  refine v_iload_n (pc := 1) (i := 1) dX10_nameAt_1 rfl rfl ?_
  refine ct_V (pc := 2) gR (as := [si a1]) (st := []) (ci := 9) (k := 1) (n := 6) dX10_nameAt_2 lkX10_71 caX10_existing cvX10_existing rfl (by decide) rfl (fun b Q1 hq => tX10_existing b a1 h Q1 hq) ⟨by decide, by decide⟩ (Nat.le_of_ble_eq_true rfl) rfl hF (fun E hp => hp) (fun x1 hF => ?_)
  show gV G mX10_nameAt 7 Q 5 [some (sr (some a0)), some (si a1), some (si a2)] [sr x1] (1) (6) h
  refine s_getR (pc := 5) dX10_nameAt_5 flX10_138 rfl hF (fun x2 hF => ?_)
  refine v_iload_n (pc := 8) (i := 2) dX10_nameAt_8 rfl rfl ?_
  refine ct_S (pc := 9) gI (as := [sr x2, si a2]) (st := []) (k := 0) (n := 0) dX10_nameAt_9 lkX10_190 caX10_codeAt csX10_codeAt rfl (fun Q1 hq => tX10_codeAt x2 a2 h Q1 hq) ⟨by decide, by decide⟩ (Nat.le_of_ble_eq_true rfl) rfl hF (fun E hp => hp) (fun x3 hF => ?_)
  show gV G mX10_nameAt 7 Q 12 [some (sr (some a0)), some (si a1), some (si a2)] [si x3] (0) (0) h
  exact v_iret (pc := 12) dX10_nameAt_12 rfl rfl (okr hF fun q => q)
/-! BrailleDesk.contentLength -/
def fX10_contentLength (a0 : Nat) (a1 : Int32) (h : hp) : Option (Int32 ⊕ String) :=
  (oOb 9 (some a0) h).bind fun b =>
  oC (fX10_existing b a1 h) (fun E => .inr E) fun x1 =>
  (oGR 1 6 x1 h).bind fun x2 =>
  (oOb 0 x2 h).bind fun b =>
  (fX1_size b h).bind fun x3 =>
  some (.inl x3)
theorem tX10_contentLength {G : gG} (a0 : Nat) (a1 : Int32) (h : hp) (Q : hQ) (hF : okB (fX10_contentLength a0 a1 h) (pC gI Q h)) : gS G mX10_contentLength 7 1 6 [sr (some a0), si a1] h Q := by
  delta fX10_contentLength at hF
  refine gS_at [some (sr (some a0)), some (si a1)] pl_X10 rfl (Nat.le_of_ble_eq_true rfl) rfl ?_
  refine v_aload_n (pc := 0) (i := 0) dX10_contentLength_0 rfl rfl ?_
  refine v_iload_n (pc := 1) (i := 1) dX10_contentLength_1 rfl rfl ?_
  refine ct_V (pc := 2) gR (as := [si a1]) (st := []) (ci := 9) (k := 0) (n := 0) dX10_contentLength_2 lkX10_71 caX10_existing cvX10_existing rfl (by decide) rfl (fun b Q1 hq => tX10_existing b a1 h Q1 hq) ⟨by decide, by decide⟩ (Nat.le_of_ble_eq_true rfl) rfl hF (fun E hp => hp) (fun x1 hF => ?_)
  show gV G mX10_contentLength 7 Q 5 [some (sr (some a0)), some (si a1)] [sr x1] (0) (0) h
  refine s_getR (pc := 5) dX10_contentLength_5 flX10_194 rfl hF (fun x2 hF => ?_)
  refine cp_V (pc := 8) gI (as := []) (st := []) (ci := 0) (k := 0) (n := 0) dX10_contentLength_8 lkX10_59 caX1_size cvX1_size rfl (by decide) rfl (fun b Q1 hq => tX1_size b h Q1 hq) ⟨by decide, by decide⟩ (Nat.le_of_ble_eq_true rfl) rfl hF (fun x3 hF => ?_)
  show gV G mX10_contentLength 7 Q 11 [some (sr (some a0)), some (si a1)] [si x3] (0) (0) h
  exact v_iret (pc := 11) dX10_contentLength_11 rfl rfl (okr hF fun q => q)
/-! BrailleDesk.contentAt -/
def fX10_contentAt (a0 : Nat) (a1 : Int32) (a2 : Int32) (h : hp) : Option (Int32 ⊕ String) :=
  (oOb 9 (some a0) h).bind fun b =>
  oC (fX10_existing b a1 h) (fun E => .inr E) fun x1 =>
  (oGR 1 6 x1 h).bind fun x2 =>
  oC (fX10_codeAt x2 a2 h) (fun E => .inr E) fun x3 =>
  some (.inl x3)
theorem tX10_contentAt {G : gG} (a0 : Nat) (a1 : Int32) (a2 : Int32) (h : hp) (Q : hQ) (hF : okB (fX10_contentAt a0 a1 a2 h) (pC gI Q h)) : gS G mX10_contentAt 7 2 12 [sr (some a0), si a1, si a2] h Q := by
  delta fX10_contentAt at hF
  refine gS_at [some (sr (some a0)), some (si a1), some (si a2)] pl_X10 rfl (Nat.le_of_ble_eq_true rfl) rfl ?_
  refine v_aload_n (pc := 0) (i := 0) dX10_contentAt_0 rfl rfl ?_
  refine v_iload_n (pc := 1) (i := 1) dX10_contentAt_1 rfl rfl ?_
  refine ct_V (pc := 2) gR (as := [si a1]) (st := []) (ci := 9) (k := 1) (n := 6) dX10_contentAt_2 lkX10_71 caX10_existing cvX10_existing rfl (by decide) rfl (fun b Q1 hq => tX10_existing b a1 h Q1 hq) ⟨by decide, by decide⟩ (Nat.le_of_ble_eq_true rfl) rfl hF (fun E hp => hp) (fun x1 hF => ?_)
  show gV G mX10_contentAt 7 Q 5 [some (sr (some a0)), some (si a1), some (si a2)] [sr x1] (1) (6) h
  refine s_getR (pc := 5) dX10_contentAt_5 flX10_194 rfl hF (fun x2 hF => ?_)
  refine v_iload_n (pc := 8) (i := 2) dX10_contentAt_8 rfl rfl ?_
  refine ct_S (pc := 9) gI (as := [sr x2, si a2]) (st := []) (k := 0) (n := 0) dX10_contentAt_9 lkX10_190 caX10_codeAt csX10_codeAt rfl (fun Q1 hq => tX10_codeAt x2 a2 h Q1 hq) ⟨by decide, by decide⟩ (Nat.le_of_ble_eq_true rfl) rfl hF (fun E hp => hp) (fun x3 hF => ?_)
  show gV G mX10_contentAt 7 Q 12 [some (sr (some a0)), some (si a1), some (si a2)] [si x3] (0) (0) h
  exact v_iret (pc := 12) dX10_contentAt_12 rfl rfl (okr hF fun q => q)
/-! BrailleDesk.isOn -/
def fX10_isOn (a0 : Nat) (a1 : Int32) (h : hp) : Option (Int32 ⊕ String) :=
  (oOb 9 (some a0) h).bind fun b =>
  oC (fX10_existing b a1 h) (fun E => .inr E) fun x1 =>
  (oGI 1 8 x1 h).bind fun x2 =>
  (oBo x2).bind fun _ =>
  some (.inl x2)
theorem tX10_isOn {G : gG} (a0 : Nat) (a1 : Int32) (h : hp) (Q : hQ) (hF : okB (fX10_isOn a0 a1 h) (pC gI Q h)) : gS G mX10_isOn 7 1 6 [sr (some a0), si a1] h Q := by
  delta fX10_isOn at hF
  refine gS_at [some (sr (some a0)), some (si a1)] pl_X10 rfl (Nat.le_of_ble_eq_true rfl) rfl ?_
  refine v_aload_n (pc := 0) (i := 0) dX10_isOn_0 rfl rfl ?_
  refine v_iload_n (pc := 1) (i := 1) dX10_isOn_1 rfl rfl ?_
  refine ct_V (pc := 2) gR (as := [si a1]) (st := []) (ci := 9) (k := 0) (n := 0) dX10_isOn_2 lkX10_71 caX10_existing cvX10_existing rfl (by decide) rfl (fun b Q1 hq => tX10_existing b a1 h Q1 hq) ⟨by decide, by decide⟩ (Nat.le_of_ble_eq_true rfl) rfl hF (fun E hp => hp) (fun x1 hF => ?_)
  show gV G mX10_isOn 7 Q 5 [some (sr (some a0)), some (si a1)] [sr x1] (0) (0) h
  refine s_getI (pc := 5) dX10_isOn_5 flX10_157 rfl hF (fun x2 hF => ?_)
  exact s_zret (pc := 8) dX10_isOn_8 rfl hF (fun hF => (okr hF fun q => q))
/-! BrailleDesk.presses -/
def fX10_presses (a0 : Nat) (a1 : Int32) (h : hp) : Option (Int32 ⊕ String) :=
  (oOb 9 (some a0) h).bind fun b =>
  oC (fX10_existing b a1 h) (fun E => .inr E) fun x1 =>
  (oGI 1 9 x1 h).bind fun x2 =>
  some (.inl x2)
theorem tX10_presses {G : gG} (a0 : Nat) (a1 : Int32) (h : hp) (Q : hQ) (hF : okB (fX10_presses a0 a1 h) (pC gI Q h)) : gS G mX10_presses 7 1 6 [sr (some a0), si a1] h Q := by
  delta fX10_presses at hF
  refine gS_at [some (sr (some a0)), some (si a1)] pl_X10 rfl (Nat.le_of_ble_eq_true rfl) rfl ?_
  refine v_aload_n (pc := 0) (i := 0) dX10_presses_0 rfl rfl ?_
  refine v_iload_n (pc := 1) (i := 1) dX10_presses_1 rfl rfl ?_
  refine ct_V (pc := 2) gR (as := [si a1]) (st := []) (ci := 9) (k := 0) (n := 0) dX10_presses_2 lkX10_71 caX10_existing cvX10_existing rfl (by decide) rfl (fun b Q1 hq => tX10_existing b a1 h Q1 hq) ⟨by decide, by decide⟩ (Nat.le_of_ble_eq_true rfl) rfl hF (fun E hp => hp) (fun x1 hF => ?_)
  show gV G mX10_presses 7 Q 5 [some (sr (some a0)), some (si a1)] [sr x1] (0) (0) h
  refine s_getI (pc := 5) dX10_presses_5 flX10_197 rfl hF (fun x2 hF => ?_)
  exact v_iret (pc := 8) dX10_presses_8 rfl rfl (okr hF fun q => q)
/-! BrailleDesk.isShown -/
def fX10_isShown (a0 : Nat) (a1 : Int32) (h : hp) : Option (Int32 ⊕ String) :=
  (oOb 9 (some a0) h).bind fun b =>
  oC (fX10_existing b a1 h) (fun E => .inr E) fun x1 =>
  (oOb 1 x1 h).bind fun b =>
  (fX2_isShownNow b h).bind fun x2 =>
  (oBo x2).bind fun _ =>
  some (.inl x2)
theorem tX10_isShown {G : gG} (a0 : Nat) (a1 : Int32) (h : hp) (Q : hQ) (hF : okB (fX10_isShown a0 a1 h) (pC gI Q h)) : gS G mX10_isShown 7 1 6 [sr (some a0), si a1] h Q := by
  delta fX10_isShown at hF
  refine gS_at [some (sr (some a0)), some (si a1)] pl_X10 rfl (Nat.le_of_ble_eq_true rfl) rfl ?_
  refine v_aload_n (pc := 0) (i := 0) dX10_isShown_0 rfl rfl ?_
  refine v_iload_n (pc := 1) (i := 1) dX10_isShown_1 rfl rfl ?_
  refine ct_V (pc := 2) gR (as := [si a1]) (st := []) (ci := 9) (k := 0) (n := 0) dX10_isShown_2 lkX10_71 caX10_existing cvX10_existing rfl (by decide) rfl (fun b Q1 hq => tX10_existing b a1 h Q1 hq) ⟨by decide, by decide⟩ (Nat.le_of_ble_eq_true rfl) rfl hF (fun E hp => hp) (fun x1 hF => ?_)
  show gV G mX10_isShown 7 Q 5 [some (sr (some a0)), some (si a1)] [sr x1] (0) (0) h
  refine cp_V (pc := 5) gI (as := []) (st := []) (ci := 1) (k := 0) (n := 0) dX10_isShown_5 lkX10_110 caX2_isShownNow cvX2_isShownNow rfl (by decide) rfl (fun b Q1 hq => tX2_isShownNow b h Q1 hq) ⟨by decide, by decide⟩ (Nat.le_of_ble_eq_true rfl) rfl hF (fun x2 hF => ?_)
  show gV G mX10_isShown 7 Q 8 [some (sr (some a0)), some (si a1)] [si x2] (0) (0) h
  exact s_zret (pc := 8) dX10_isShown_8 rfl hF (fun hF => (okr hF fun q => q))
/-! BrailleDesk.level -/
def fX10_level (a0 : Nat) (a1 : Int32) (h : hp) : Option (Int32 ⊕ String) :=
  (oOb 9 (some a0) h).bind fun b =>
  oC (fX10_existing b a1 h) (fun E => .inr E) fun x1 =>
  (oOb 1 x1 h).bind fun b =>
  (fX2_levelNow b h).bind fun x2 =>
  some (.inl x2)
theorem tX10_level {G : gG} (a0 : Nat) (a1 : Int32) (h : hp) (Q : hQ) (hF : okB (fX10_level a0 a1 h) (pC gI Q h)) : gS G mX10_level 7 1 6 [sr (some a0), si a1] h Q := by
  delta fX10_level at hF
  refine gS_at [some (sr (some a0)), some (si a1)] pl_X10 rfl (Nat.le_of_ble_eq_true rfl) rfl ?_
  refine v_aload_n (pc := 0) (i := 0) dX10_level_0 rfl rfl ?_
  refine v_iload_n (pc := 1) (i := 1) dX10_level_1 rfl rfl ?_
  refine ct_V (pc := 2) gR (as := [si a1]) (st := []) (ci := 9) (k := 0) (n := 0) dX10_level_2 lkX10_71 caX10_existing cvX10_existing rfl (by decide) rfl (fun b Q1 hq => tX10_existing b a1 h Q1 hq) ⟨by decide, by decide⟩ (Nat.le_of_ble_eq_true rfl) rfl hF (fun E hp => hp) (fun x1 hF => ?_)
  show gV G mX10_level 7 Q 5 [some (sr (some a0)), some (si a1)] [sr x1] (0) (0) h
  refine cp_V (pc := 5) gI (as := []) (st := []) (ci := 1) (k := 0) (n := 0) dX10_level_5 lkX10_200 caX2_levelNow cvX2_levelNow rfl (by decide) rfl (fun b Q1 hq => tX2_levelNow b h Q1 hq) ⟨by decide, by decide⟩ (Nat.le_of_ble_eq_true rfl) rfl hF (fun x2 hF => ?_)
  show gV G mX10_level 7 Q 8 [some (sr (some a0)), some (si a1)] [si x2] (0) (0) h
  exact v_iret (pc := 8) dX10_level_8 rfl rfl (okr hF fun q => q)
/-! BrailleDesk.reading -/
def fX10_reading (a0 : Nat) (h : hp) : Option Int32 :=
  (oGR 9 0 (some a0) h).bind fun x1 =>
  (oGI 6 5 x1 h).bind fun x2 =>
  some (x2)
theorem tX10_reading {G : gG} (a0 : Nat) (h : hp) (Q : hQ) (hF : okB (fX10_reading a0 h) (pP gI Q h)) : gS G mX10_reading 0 0 0 [sr (some a0)] h Q := by
  delta fX10_reading at hF
  refine gS_at [some (sr (some a0))] pl_X10 rfl (Nat.le_of_ble_eq_true rfl) rfl ?_
  refine v_aload_n (pc := 0) (i := 0) dX10_reading_0 rfl rfl ?_
  refine s_getR (pc := 1) dX10_reading_1 flX10_10 rfl hF (fun x1 hF => ?_)
  refine s_getI (pc := 4) dX10_reading_4 flX10_203 rfl hF (fun x2 hF => ?_)
  exact v_iret (pc := 7) dX10_reading_7 rfl rfl (okr hF fun q => q)
/-! BrailleDesk.readingAt -/
def fX10_readingAt (a0 : Nat) (a1 : Int32) (h : hp) : Option (Int32 ⊕ String) :=
  (oGR 9 0 (some a0) h).bind fun x1 =>
  (oOb 6 x1 h).bind fun b =>
  (fX7_inOrder b a1 h).bind fun x2 =>
  if x2 = none then
  (some (.inr "java/lang/IndexOutOfBoundsException"))
  else
  (oGI 1 0 x2 h).bind fun x3 =>
  some (.inl x3)
theorem tX10_readingAt {G : gG} (a0 : Nat) (a1 : Int32) (h : hp) (Q : hQ) (hF : okB (fX10_readingAt a0 a1 h) (pC gI Q h)) : gS G mX10_readingAt 6 1 6 [sr (some a0), si a1] h Q := by
  delta fX10_readingAt at hF
  refine gS_at [some (sr (some a0)), some (si a1), none] pl_X10 rfl (Nat.le_of_ble_eq_true rfl) rfl ?_
  refine v_aload_n (pc := 0) (i := 0) dX10_readingAt_0 rfl rfl ?_
  refine s_getR (pc := 1) dX10_readingAt_1 flX10_10 rfl hF (fun x1 hF => ?_)
  refine v_iload_n (pc := 4) (i := 1) dX10_readingAt_4 rfl rfl ?_
  refine cp_V (pc := 5) gR (as := [si a1]) (st := []) (ci := 6) (k := 1) (n := 6) dX10_readingAt_5 lkX10_206 caX7_inOrder cvX7_inOrder rfl (by decide) rfl (fun b Q1 hq => tX7_inOrder b a1 h Q1 hq) ⟨by decide, by decide⟩ (Nat.le_of_ble_eq_true rfl) rfl hF (fun x2 hF => ?_)
  show gV G mX10_readingAt 6 Q 8 [some (sr (some a0)), some (si a1), none] [sr x2] (1) (6) h
  refine v_astore_n (pc := 8) (i := 2) [some (sr (some a0)), some (si a1), some (sr x2)] dX10_readingAt_8 rfl (by decide) rfl rfl ?_
  refine v_aload_n (pc := 9) (i := 2) dX10_readingAt_9 rfl rfl ?_
  refine s_ifnonnull (pc := 10) 23 dX10_readingAt_10 rfl hF (fun hF => ?_) (fun hF => ?_)
  · refine v_aload_n (pc := 23) (i := 2) dX10_readingAt_23 rfl rfl ?_
    refine s_getI (pc := 24) dX10_readingAt_24 flX10_103 rfl hF (fun x3 hF => ?_)
    exact v_iret (pc := 27) dX10_readingAt_27 rfl rfl (okr hF fun q => q)
  exact v_throw (pc := 13) (k := 0) (n := 0) 26 dX10_readingAt_13 dX10_readingAt_16 dX10_readingAt_17 dX10_readingAt_19 dX10_readingAt_22 rfl tfit_IndexOutOfBoundsException tnames twX10_185_189 rfl (by decide) (Nat.le_of_ble_eq_true rfl) rfl (okr hF fun q => q)
/-! BrailleDesk.keyBit -/
def fX10_keyBit (a0 : Int32) : Option (Int32 ⊕ String) :=
  if a0 < 0 then
  (some (.inr "java/lang/IndexOutOfBoundsException"))
  else
  if a0 ≤ (8 : Int32) then
  (some (.inl ((1 : Int32) <<< (a0 &&& 31))))
  else
  some (.inr "java/lang/IndexOutOfBoundsException")
theorem tX10_keyBit {G : gG} (a0 : Int32) (h : hp) (Q : hQ) (hF : okB (fX10_keyBit a0) (pC gI Q h)) : gS G mX10_keyBit 6 1 6 [si a0] h Q := by
  delta fX10_keyBit at hF
  refine gS_at [some (si a0)] pl_X10 rfl (Nat.le_of_ble_eq_true rfl) rfl ?_
  refine v_iload_n (pc := 0) (i := 0) dX10_keyBit_0 rfl rfl ?_
  refine v_if_lt (pc := 1) 10 dX10_keyBit_1 rfl (fun hc => ?_) (fun hc => ?_)
  · replace hF := (okB_if hF).1 hc
    exact v_throwW (pc := 10) (k := 0) (n := 0) 27 dX10_keyBit_10 dX10_keyBit_13 dX10_keyBit_14 dX10_keyBit_17 dX10_keyBit_20 rfl tfit_IndexOutOfBoundsException tnames twX10_185_189 rfl (by decide) (Nat.le_of_ble_eq_true rfl) rfl (okr hF fun q => q)
  replace hF := (okB_if hF).2 hc
  refine v_iload_n (pc := 4) (i := 0) dX10_keyBit_4 rfl rfl ?_
  refine v_bipush (pc := 5) (v := (8 : Int32)) dX10_keyBit_5 rfl ?_
  refine v_icmp_le (pc := 7) 21 dX10_keyBit_7 rfl (fun hc => ?_) (fun hc => ?_)
  · replace hF := (okB_if hF).1 hc
    refine v_iconst (pc := 21) (v := (1 : Int32)) dX10_keyBit_21 rfl ?_
    refine v_iload_n (pc := 22) (i := 0) dX10_keyBit_22 rfl rfl ?_
    refine v_ishl (pc := 23) dX10_keyBit_23 ?_
    exact v_iret (pc := 24) dX10_keyBit_24 rfl rfl (okr hF fun q => q)
  replace hF := (okB_if hF).2 hc
  exact v_throwW (pc := 10) (k := 0) (n := 0) 27 dX10_keyBit_10 dX10_keyBit_13 dX10_keyBit_14 dX10_keyBit_17 dX10_keyBit_20 rfl tfit_IndexOutOfBoundsException tnames twX10_185_189 rfl (by decide) (Nat.le_of_ble_eq_true rfl) rfl (okr hF fun q => q)
/-! Integer.bitCount -/
def fJ6_bitCount_0f7a4 (a0 : Int32) : Option Int32 :=
  some ((((((((a0 - (((a0.toUInt32 >>> ((1 : Int32).toUInt32 &&& Int32.toUInt32 31)).toInt32) &&& (1431655765 : Int32))) &&& (858993459 : Int32)) + ((((a0 - (((a0.toUInt32 >>> ((1 : Int32).toUInt32 &&& Int32.toUInt32 31)).toInt32) &&& (1431655765 : Int32))).toUInt32 >>> ((2 : Int32).toUInt32 &&& Int32.toUInt32 31)).toInt32) &&& (858993459 : Int32))) + (((((a0 - (((a0.toUInt32 >>> ((1 : Int32).toUInt32 &&& Int32.toUInt32 31)).toInt32) &&& (1431655765 : Int32))) &&& (858993459 : Int32)) + ((((a0 - (((a0.toUInt32 >>> ((1 : Int32).toUInt32 &&& Int32.toUInt32 31)).toInt32) &&& (1431655765 : Int32))).toUInt32 >>> ((2 : Int32).toUInt32 &&& Int32.toUInt32 31)).toInt32) &&& (858993459 : Int32))).toUInt32 >>> ((4 : Int32).toUInt32 &&& Int32.toUInt32 31)).toInt32)) &&& (252645135 : Int32)) + (((((((a0 - (((a0.toUInt32 >>> ((1 : Int32).toUInt32 &&& Int32.toUInt32 31)).toInt32) &&& (1431655765 : Int32))) &&& (858993459 : Int32)) + ((((a0 - (((a0.toUInt32 >>> ((1 : Int32).toUInt32 &&& Int32.toUInt32 31)).toInt32) &&& (1431655765 : Int32))).toUInt32 >>> ((2 : Int32).toUInt32 &&& Int32.toUInt32 31)).toInt32) &&& (858993459 : Int32))) + (((((a0 - (((a0.toUInt32 >>> ((1 : Int32).toUInt32 &&& Int32.toUInt32 31)).toInt32) &&& (1431655765 : Int32))) &&& (858993459 : Int32)) + ((((a0 - (((a0.toUInt32 >>> ((1 : Int32).toUInt32 &&& Int32.toUInt32 31)).toInt32) &&& (1431655765 : Int32))).toUInt32 >>> ((2 : Int32).toUInt32 &&& Int32.toUInt32 31)).toInt32) &&& (858993459 : Int32))).toUInt32 >>> ((4 : Int32).toUInt32 &&& Int32.toUInt32 31)).toInt32)) &&& (252645135 : Int32)).toUInt32 >>> ((8 : Int32).toUInt32 &&& Int32.toUInt32 31)).toInt32)) + ((((((((a0 - (((a0.toUInt32 >>> ((1 : Int32).toUInt32 &&& Int32.toUInt32 31)).toInt32) &&& (1431655765 : Int32))) &&& (858993459 : Int32)) + ((((a0 - (((a0.toUInt32 >>> ((1 : Int32).toUInt32 &&& Int32.toUInt32 31)).toInt32) &&& (1431655765 : Int32))).toUInt32 >>> ((2 : Int32).toUInt32 &&& Int32.toUInt32 31)).toInt32) &&& (858993459 : Int32))) + (((((a0 - (((a0.toUInt32 >>> ((1 : Int32).toUInt32 &&& Int32.toUInt32 31)).toInt32) &&& (1431655765 : Int32))) &&& (858993459 : Int32)) + ((((a0 - (((a0.toUInt32 >>> ((1 : Int32).toUInt32 &&& Int32.toUInt32 31)).toInt32) &&& (1431655765 : Int32))).toUInt32 >>> ((2 : Int32).toUInt32 &&& Int32.toUInt32 31)).toInt32) &&& (858993459 : Int32))).toUInt32 >>> ((4 : Int32).toUInt32 &&& Int32.toUInt32 31)).toInt32)) &&& (252645135 : Int32)) + (((((((a0 - (((a0.toUInt32 >>> ((1 : Int32).toUInt32 &&& Int32.toUInt32 31)).toInt32) &&& (1431655765 : Int32))) &&& (858993459 : Int32)) + ((((a0 - (((a0.toUInt32 >>> ((1 : Int32).toUInt32 &&& Int32.toUInt32 31)).toInt32) &&& (1431655765 : Int32))).toUInt32 >>> ((2 : Int32).toUInt32 &&& Int32.toUInt32 31)).toInt32) &&& (858993459 : Int32))) + (((((a0 - (((a0.toUInt32 >>> ((1 : Int32).toUInt32 &&& Int32.toUInt32 31)).toInt32) &&& (1431655765 : Int32))) &&& (858993459 : Int32)) + ((((a0 - (((a0.toUInt32 >>> ((1 : Int32).toUInt32 &&& Int32.toUInt32 31)).toInt32) &&& (1431655765 : Int32))).toUInt32 >>> ((2 : Int32).toUInt32 &&& Int32.toUInt32 31)).toInt32) &&& (858993459 : Int32))).toUInt32 >>> ((4 : Int32).toUInt32 &&& Int32.toUInt32 31)).toInt32)) &&& (252645135 : Int32)).toUInt32 >>> ((8 : Int32).toUInt32 &&& Int32.toUInt32 31)).toInt32)).toUInt32 >>> ((16 : Int32).toUInt32 &&& Int32.toUInt32 31)).toInt32)) &&& (63 : Int32))
theorem tJ6_bitCount_0f7a4 {G : gG} (a0 : Int32) (h : hp) (Q : hQ) (hF : okB (fJ6_bitCount_0f7a4 a0) (pP gI Q h)) : gS G mJ6_bitCount_0f7a4 0 0 0 [si a0] h Q := by
  delta fJ6_bitCount_0f7a4 at hF
  refine gS_at [some (si a0)] pl_J6 rfl (Nat.le_of_ble_eq_true rfl) rfl ?_
  refine v_iload_n (pc := 0) (i := 0) dJ6_bitCount_0f7a4_0 rfl rfl ?_
  refine v_iload_n (pc := 1) (i := 0) dJ6_bitCount_0f7a4_1 rfl rfl ?_
  refine v_iconst (pc := 2) (v := (1 : Int32)) dJ6_bitCount_0f7a4_2 rfl ?_
  refine v_iushr (pc := 3) (v := (a0.toUInt32 >>> ((1 : Int32).toUInt32 &&& Int32.toUInt32 31)).toInt32) dJ6_bitCount_0f7a4_3 rfl ?_
  refine v_ldcw (pc := 4) (v := (1431655765 : Int32)) dJ6_bitCount_0f7a4_4 ctJ6_265 ?_
  refine v_iand (pc := 7) dJ6_bitCount_0f7a4_7 ?_
  refine v_isub (pc := 8) dJ6_bitCount_0f7a4_8 ?_
  refine v_istore_n (pc := 9) (i := 0) [some (si (a0 - (((a0.toUInt32 >>> ((1 : Int32).toUInt32 &&& Int32.toUInt32 31)).toInt32) &&& (1431655765 : Int32))))] dJ6_bitCount_0f7a4_9 rfl (by decide) rfl rfl ?_
  refine v_iload_n (pc := 10) (i := 0) dJ6_bitCount_0f7a4_10 rfl rfl ?_
  refine v_ldcw (pc := 11) (v := (858993459 : Int32)) dJ6_bitCount_0f7a4_11 ctJ6_266 ?_
  refine v_iand (pc := 14) dJ6_bitCount_0f7a4_14 ?_
  refine v_iload_n (pc := 15) (i := 0) dJ6_bitCount_0f7a4_15 rfl rfl ?_
  refine v_iconst (pc := 16) (v := (2 : Int32)) dJ6_bitCount_0f7a4_16 rfl ?_
  refine v_iushr (pc := 17) (v := ((a0 - (((a0.toUInt32 >>> ((1 : Int32).toUInt32 &&& Int32.toUInt32 31)).toInt32) &&& (1431655765 : Int32))).toUInt32 >>> ((2 : Int32).toUInt32 &&& Int32.toUInt32 31)).toInt32) dJ6_bitCount_0f7a4_17 rfl ?_
  refine v_ldcw (pc := 18) (v := (858993459 : Int32)) dJ6_bitCount_0f7a4_18 ctJ6_266 ?_
  refine v_iand (pc := 21) dJ6_bitCount_0f7a4_21 ?_
  refine v_iadd (pc := 22) dJ6_bitCount_0f7a4_22 ?_
  refine v_istore_n (pc := 23) (i := 0) [some (si (((a0 - (((a0.toUInt32 >>> ((1 : Int32).toUInt32 &&& Int32.toUInt32 31)).toInt32) &&& (1431655765 : Int32))) &&& (858993459 : Int32)) + ((((a0 - (((a0.toUInt32 >>> ((1 : Int32).toUInt32 &&& Int32.toUInt32 31)).toInt32) &&& (1431655765 : Int32))).toUInt32 >>> ((2 : Int32).toUInt32 &&& Int32.toUInt32 31)).toInt32) &&& (858993459 : Int32))))] dJ6_bitCount_0f7a4_23 rfl (by decide) rfl rfl ?_
  refine v_iload_n (pc := 24) (i := 0) dJ6_bitCount_0f7a4_24 rfl rfl ?_
  refine v_iload_n (pc := 25) (i := 0) dJ6_bitCount_0f7a4_25 rfl rfl ?_
  refine v_iconst (pc := 26) (v := (4 : Int32)) dJ6_bitCount_0f7a4_26 rfl ?_
  refine v_iushr (pc := 27) (v := ((((a0 - (((a0.toUInt32 >>> ((1 : Int32).toUInt32 &&& Int32.toUInt32 31)).toInt32) &&& (1431655765 : Int32))) &&& (858993459 : Int32)) + ((((a0 - (((a0.toUInt32 >>> ((1 : Int32).toUInt32 &&& Int32.toUInt32 31)).toInt32) &&& (1431655765 : Int32))).toUInt32 >>> ((2 : Int32).toUInt32 &&& Int32.toUInt32 31)).toInt32) &&& (858993459 : Int32))).toUInt32 >>> ((4 : Int32).toUInt32 &&& Int32.toUInt32 31)).toInt32) dJ6_bitCount_0f7a4_27 rfl ?_
  refine v_iadd (pc := 28) dJ6_bitCount_0f7a4_28 ?_
  refine v_ldcw (pc := 29) (v := (252645135 : Int32)) dJ6_bitCount_0f7a4_29 ctJ6_267 ?_
  refine v_iand (pc := 32) dJ6_bitCount_0f7a4_32 ?_
  refine v_istore_n (pc := 33) (i := 0) [some (si (((((a0 - (((a0.toUInt32 >>> ((1 : Int32).toUInt32 &&& Int32.toUInt32 31)).toInt32) &&& (1431655765 : Int32))) &&& (858993459 : Int32)) + ((((a0 - (((a0.toUInt32 >>> ((1 : Int32).toUInt32 &&& Int32.toUInt32 31)).toInt32) &&& (1431655765 : Int32))).toUInt32 >>> ((2 : Int32).toUInt32 &&& Int32.toUInt32 31)).toInt32) &&& (858993459 : Int32))) + (((((a0 - (((a0.toUInt32 >>> ((1 : Int32).toUInt32 &&& Int32.toUInt32 31)).toInt32) &&& (1431655765 : Int32))) &&& (858993459 : Int32)) + ((((a0 - (((a0.toUInt32 >>> ((1 : Int32).toUInt32 &&& Int32.toUInt32 31)).toInt32) &&& (1431655765 : Int32))).toUInt32 >>> ((2 : Int32).toUInt32 &&& Int32.toUInt32 31)).toInt32) &&& (858993459 : Int32))).toUInt32 >>> ((4 : Int32).toUInt32 &&& Int32.toUInt32 31)).toInt32)) &&& (252645135 : Int32)))] dJ6_bitCount_0f7a4_33 rfl (by decide) rfl rfl ?_
  refine v_iload_n (pc := 34) (i := 0) dJ6_bitCount_0f7a4_34 rfl rfl ?_
  refine v_iload_n (pc := 35) (i := 0) dJ6_bitCount_0f7a4_35 rfl rfl ?_
  refine v_bipush (pc := 36) (v := (8 : Int32)) dJ6_bitCount_0f7a4_36 rfl ?_
  refine v_iushr (pc := 38) (v := ((((((a0 - (((a0.toUInt32 >>> ((1 : Int32).toUInt32 &&& Int32.toUInt32 31)).toInt32) &&& (1431655765 : Int32))) &&& (858993459 : Int32)) + ((((a0 - (((a0.toUInt32 >>> ((1 : Int32).toUInt32 &&& Int32.toUInt32 31)).toInt32) &&& (1431655765 : Int32))).toUInt32 >>> ((2 : Int32).toUInt32 &&& Int32.toUInt32 31)).toInt32) &&& (858993459 : Int32))) + (((((a0 - (((a0.toUInt32 >>> ((1 : Int32).toUInt32 &&& Int32.toUInt32 31)).toInt32) &&& (1431655765 : Int32))) &&& (858993459 : Int32)) + ((((a0 - (((a0.toUInt32 >>> ((1 : Int32).toUInt32 &&& Int32.toUInt32 31)).toInt32) &&& (1431655765 : Int32))).toUInt32 >>> ((2 : Int32).toUInt32 &&& Int32.toUInt32 31)).toInt32) &&& (858993459 : Int32))).toUInt32 >>> ((4 : Int32).toUInt32 &&& Int32.toUInt32 31)).toInt32)) &&& (252645135 : Int32)).toUInt32 >>> ((8 : Int32).toUInt32 &&& Int32.toUInt32 31)).toInt32) dJ6_bitCount_0f7a4_38 rfl ?_
  refine v_iadd (pc := 39) dJ6_bitCount_0f7a4_39 ?_
  refine v_istore_n (pc := 40) (i := 0) [some (si ((((((a0 - (((a0.toUInt32 >>> ((1 : Int32).toUInt32 &&& Int32.toUInt32 31)).toInt32) &&& (1431655765 : Int32))) &&& (858993459 : Int32)) + ((((a0 - (((a0.toUInt32 >>> ((1 : Int32).toUInt32 &&& Int32.toUInt32 31)).toInt32) &&& (1431655765 : Int32))).toUInt32 >>> ((2 : Int32).toUInt32 &&& Int32.toUInt32 31)).toInt32) &&& (858993459 : Int32))) + (((((a0 - (((a0.toUInt32 >>> ((1 : Int32).toUInt32 &&& Int32.toUInt32 31)).toInt32) &&& (1431655765 : Int32))) &&& (858993459 : Int32)) + ((((a0 - (((a0.toUInt32 >>> ((1 : Int32).toUInt32 &&& Int32.toUInt32 31)).toInt32) &&& (1431655765 : Int32))).toUInt32 >>> ((2 : Int32).toUInt32 &&& Int32.toUInt32 31)).toInt32) &&& (858993459 : Int32))).toUInt32 >>> ((4 : Int32).toUInt32 &&& Int32.toUInt32 31)).toInt32)) &&& (252645135 : Int32)) + (((((((a0 - (((a0.toUInt32 >>> ((1 : Int32).toUInt32 &&& Int32.toUInt32 31)).toInt32) &&& (1431655765 : Int32))) &&& (858993459 : Int32)) + ((((a0 - (((a0.toUInt32 >>> ((1 : Int32).toUInt32 &&& Int32.toUInt32 31)).toInt32) &&& (1431655765 : Int32))).toUInt32 >>> ((2 : Int32).toUInt32 &&& Int32.toUInt32 31)).toInt32) &&& (858993459 : Int32))) + (((((a0 - (((a0.toUInt32 >>> ((1 : Int32).toUInt32 &&& Int32.toUInt32 31)).toInt32) &&& (1431655765 : Int32))) &&& (858993459 : Int32)) + ((((a0 - (((a0.toUInt32 >>> ((1 : Int32).toUInt32 &&& Int32.toUInt32 31)).toInt32) &&& (1431655765 : Int32))).toUInt32 >>> ((2 : Int32).toUInt32 &&& Int32.toUInt32 31)).toInt32) &&& (858993459 : Int32))).toUInt32 >>> ((4 : Int32).toUInt32 &&& Int32.toUInt32 31)).toInt32)) &&& (252645135 : Int32)).toUInt32 >>> ((8 : Int32).toUInt32 &&& Int32.toUInt32 31)).toInt32)))] dJ6_bitCount_0f7a4_40 rfl (by decide) rfl rfl ?_
  refine v_iload_n (pc := 41) (i := 0) dJ6_bitCount_0f7a4_41 rfl rfl ?_
  refine v_iload_n (pc := 42) (i := 0) dJ6_bitCount_0f7a4_42 rfl rfl ?_
  refine v_bipush (pc := 43) (v := (16 : Int32)) dJ6_bitCount_0f7a4_43 rfl ?_
  refine v_iushr (pc := 45) (v := (((((((a0 - (((a0.toUInt32 >>> ((1 : Int32).toUInt32 &&& Int32.toUInt32 31)).toInt32) &&& (1431655765 : Int32))) &&& (858993459 : Int32)) + ((((a0 - (((a0.toUInt32 >>> ((1 : Int32).toUInt32 &&& Int32.toUInt32 31)).toInt32) &&& (1431655765 : Int32))).toUInt32 >>> ((2 : Int32).toUInt32 &&& Int32.toUInt32 31)).toInt32) &&& (858993459 : Int32))) + (((((a0 - (((a0.toUInt32 >>> ((1 : Int32).toUInt32 &&& Int32.toUInt32 31)).toInt32) &&& (1431655765 : Int32))) &&& (858993459 : Int32)) + ((((a0 - (((a0.toUInt32 >>> ((1 : Int32).toUInt32 &&& Int32.toUInt32 31)).toInt32) &&& (1431655765 : Int32))).toUInt32 >>> ((2 : Int32).toUInt32 &&& Int32.toUInt32 31)).toInt32) &&& (858993459 : Int32))).toUInt32 >>> ((4 : Int32).toUInt32 &&& Int32.toUInt32 31)).toInt32)) &&& (252645135 : Int32)) + (((((((a0 - (((a0.toUInt32 >>> ((1 : Int32).toUInt32 &&& Int32.toUInt32 31)).toInt32) &&& (1431655765 : Int32))) &&& (858993459 : Int32)) + ((((a0 - (((a0.toUInt32 >>> ((1 : Int32).toUInt32 &&& Int32.toUInt32 31)).toInt32) &&& (1431655765 : Int32))).toUInt32 >>> ((2 : Int32).toUInt32 &&& Int32.toUInt32 31)).toInt32) &&& (858993459 : Int32))) + (((((a0 - (((a0.toUInt32 >>> ((1 : Int32).toUInt32 &&& Int32.toUInt32 31)).toInt32) &&& (1431655765 : Int32))) &&& (858993459 : Int32)) + ((((a0 - (((a0.toUInt32 >>> ((1 : Int32).toUInt32 &&& Int32.toUInt32 31)).toInt32) &&& (1431655765 : Int32))).toUInt32 >>> ((2 : Int32).toUInt32 &&& Int32.toUInt32 31)).toInt32) &&& (858993459 : Int32))).toUInt32 >>> ((4 : Int32).toUInt32 &&& Int32.toUInt32 31)).toInt32)) &&& (252645135 : Int32)).toUInt32 >>> ((8 : Int32).toUInt32 &&& Int32.toUInt32 31)).toInt32)).toUInt32 >>> ((16 : Int32).toUInt32 &&& Int32.toUInt32 31)).toInt32) dJ6_bitCount_0f7a4_45 rfl ?_
  refine v_iadd (pc := 46) dJ6_bitCount_0f7a4_46 ?_
  refine v_istore_n (pc := 47) (i := 0) [some (si (((((((a0 - (((a0.toUInt32 >>> ((1 : Int32).toUInt32 &&& Int32.toUInt32 31)).toInt32) &&& (1431655765 : Int32))) &&& (858993459 : Int32)) + ((((a0 - (((a0.toUInt32 >>> ((1 : Int32).toUInt32 &&& Int32.toUInt32 31)).toInt32) &&& (1431655765 : Int32))).toUInt32 >>> ((2 : Int32).toUInt32 &&& Int32.toUInt32 31)).toInt32) &&& (858993459 : Int32))) + (((((a0 - (((a0.toUInt32 >>> ((1 : Int32).toUInt32 &&& Int32.toUInt32 31)).toInt32) &&& (1431655765 : Int32))) &&& (858993459 : Int32)) + ((((a0 - (((a0.toUInt32 >>> ((1 : Int32).toUInt32 &&& Int32.toUInt32 31)).toInt32) &&& (1431655765 : Int32))).toUInt32 >>> ((2 : Int32).toUInt32 &&& Int32.toUInt32 31)).toInt32) &&& (858993459 : Int32))).toUInt32 >>> ((4 : Int32).toUInt32 &&& Int32.toUInt32 31)).toInt32)) &&& (252645135 : Int32)) + (((((((a0 - (((a0.toUInt32 >>> ((1 : Int32).toUInt32 &&& Int32.toUInt32 31)).toInt32) &&& (1431655765 : Int32))) &&& (858993459 : Int32)) + ((((a0 - (((a0.toUInt32 >>> ((1 : Int32).toUInt32 &&& Int32.toUInt32 31)).toInt32) &&& (1431655765 : Int32))).toUInt32 >>> ((2 : Int32).toUInt32 &&& Int32.toUInt32 31)).toInt32) &&& (858993459 : Int32))) + (((((a0 - (((a0.toUInt32 >>> ((1 : Int32).toUInt32 &&& Int32.toUInt32 31)).toInt32) &&& (1431655765 : Int32))) &&& (858993459 : Int32)) + ((((a0 - (((a0.toUInt32 >>> ((1 : Int32).toUInt32 &&& Int32.toUInt32 31)).toInt32) &&& (1431655765 : Int32))).toUInt32 >>> ((2 : Int32).toUInt32 &&& Int32.toUInt32 31)).toInt32) &&& (858993459 : Int32))).toUInt32 >>> ((4 : Int32).toUInt32 &&& Int32.toUInt32 31)).toInt32)) &&& (252645135 : Int32)).toUInt32 >>> ((8 : Int32).toUInt32 &&& Int32.toUInt32 31)).toInt32)) + ((((((((a0 - (((a0.toUInt32 >>> ((1 : Int32).toUInt32 &&& Int32.toUInt32 31)).toInt32) &&& (1431655765 : Int32))) &&& (858993459 : Int32)) + ((((a0 - (((a0.toUInt32 >>> ((1 : Int32).toUInt32 &&& Int32.toUInt32 31)).toInt32) &&& (1431655765 : Int32))).toUInt32 >>> ((2 : Int32).toUInt32 &&& Int32.toUInt32 31)).toInt32) &&& (858993459 : Int32))) + (((((a0 - (((a0.toUInt32 >>> ((1 : Int32).toUInt32 &&& Int32.toUInt32 31)).toInt32) &&& (1431655765 : Int32))) &&& (858993459 : Int32)) + ((((a0 - (((a0.toUInt32 >>> ((1 : Int32).toUInt32 &&& Int32.toUInt32 31)).toInt32) &&& (1431655765 : Int32))).toUInt32 >>> ((2 : Int32).toUInt32 &&& Int32.toUInt32 31)).toInt32) &&& (858993459 : Int32))).toUInt32 >>> ((4 : Int32).toUInt32 &&& Int32.toUInt32 31)).toInt32)) &&& (252645135 : Int32)) + (((((((a0 - (((a0.toUInt32 >>> ((1 : Int32).toUInt32 &&& Int32.toUInt32 31)).toInt32) &&& (1431655765 : Int32))) &&& (858993459 : Int32)) + ((((a0 - (((a0.toUInt32 >>> ((1 : Int32).toUInt32 &&& Int32.toUInt32 31)).toInt32) &&& (1431655765 : Int32))).toUInt32 >>> ((2 : Int32).toUInt32 &&& Int32.toUInt32 31)).toInt32) &&& (858993459 : Int32))) + (((((a0 - (((a0.toUInt32 >>> ((1 : Int32).toUInt32 &&& Int32.toUInt32 31)).toInt32) &&& (1431655765 : Int32))) &&& (858993459 : Int32)) + ((((a0 - (((a0.toUInt32 >>> ((1 : Int32).toUInt32 &&& Int32.toUInt32 31)).toInt32) &&& (1431655765 : Int32))).toUInt32 >>> ((2 : Int32).toUInt32 &&& Int32.toUInt32 31)).toInt32) &&& (858993459 : Int32))).toUInt32 >>> ((4 : Int32).toUInt32 &&& Int32.toUInt32 31)).toInt32)) &&& (252645135 : Int32)).toUInt32 >>> ((8 : Int32).toUInt32 &&& Int32.toUInt32 31)).toInt32)).toUInt32 >>> ((16 : Int32).toUInt32 &&& Int32.toUInt32 31)).toInt32)))] dJ6_bitCount_0f7a4_47 rfl (by decide) rfl rfl ?_
  refine v_iload_n (pc := 48) (i := 0) dJ6_bitCount_0f7a4_48 rfl rfl ?_
  refine v_bipush (pc := 49) (v := (63 : Int32)) dJ6_bitCount_0f7a4_49 rfl ?_
  refine v_iand (pc := 51) dJ6_bitCount_0f7a4_51 ?_
  exact v_iret (pc := 52) dJ6_bitCount_0f7a4_52 rfl rfl (okr hF fun q => q)
/-! BrailleDesk.press -/
def fX10_press (a0 : Nat) (a1 : Int32) (h : hp) : Option ((Int32 ⊕ String) × hp) :=
  oC (fX10_keyBit a1) (fun E => (.inr E, h)) fun x1 =>
  (oGI 9 5 (some a0) h).bind fun x2 =>
  if (x2 &&& x1) = 0 then
  ((oGI 9 5 (some a0) h).bind fun x3 =>
  Option.bind (α := Int32)
  (if x3 = 0 then
  (some x1)
  else
  (oGI 9 6 (some a0) h).bind fun x6 =>
  some (x6 ||| x1))
  fun q4 =>
  (oPI 9 6 (some a0) q4 h).bind fun h7 =>
  (oGI 9 5 (some a0) h7).bind fun x8 =>
  (oPI 9 5 (some a0) (x8 ||| x1) h7).bind fun h9 =>
  (oGI 9 5 (some a0) h9).bind fun x10 =>
  (fJ6_bitCount_0f7a4 x10).bind fun x11 =>
  some ((.inl x11, h9)))
  else
  some ((.inr "java/lang/IllegalStateException", h))
theorem tX10_press {G : gG} (a0 : Nat) (a1 : Int32) (h : hp) (Q : hQ) (hF : okB (fX10_press a0 a1 h) (pX gI Q)) : gS G mX10_press 7 2 12 [sr (some a0), si a1] h Q := by
  delta fX10_press at hF
  refine gS_at [some (sr (some a0)), some (si a1), none] pl_X10 rfl (Nat.le_of_ble_eq_true rfl) rfl ?_
  refine v_iload_n (pc := 0) (i := 1) dX10_press_0 rfl rfl ?_
  refine ct_S (pc := 1) gI (as := [si a1]) (st := []) (k := 1) (n := 6) dX10_press_1 lkX10_211 caX10_keyBit csX10_keyBit rfl (fun Q1 hq => tX10_keyBit a1 h Q1 hq) ⟨by decide, by decide⟩ (Nat.le_of_ble_eq_true rfl) rfl hF (fun E hp => hp) (fun x1 hF => ?_)
  show gV G mX10_press 7 Q 4 [some (sr (some a0)), some (si a1), none] [si x1] (1) (6) h
  refine v_istore_n (pc := 4) (i := 2) [some (sr (some a0)), some (si a1), some (si x1)] dX10_press_4 rfl (by decide) rfl rfl ?_
  refine v_aload_n (pc := 5) (i := 0) dX10_press_5 rfl rfl ?_
  refine s_getI (pc := 6) dX10_press_6 flX10_215 rfl hF (fun x2 hF => ?_)
  refine v_iload_n (pc := 9) (i := 2) dX10_press_9 rfl rfl ?_
  refine v_iand (pc := 10) dX10_press_10 ?_
  refine v_if_eq (pc := 11) 24 dX10_press_11 rfl (fun hc => ?_) (fun hc => ?_)
  · replace hF := (okB_if hF).1 hc
    refine v_aload_n (pc := 24) (i := 0) dX10_press_24 rfl rfl ?_
    refine v_aload_n (pc := 25) (i := 0) dX10_press_25 rfl rfl ?_
    refine s_getI (pc := 26) dX10_press_26 flX10_215 rfl hF (fun x3 hF => ?_)
    refine mg (X := fun q4 => gV G mX10_press 7 Q 42 [some (sr (some a0)), none, some (si x1)] [si q4, sr (some a0)] (0) (0) h) hF (fun _ hj5 hF => ?_) (fun q4 hF => ?_)
    · refine v_if_ne (pc := 29) 36 dX10_press_29 rfl (fun hc => ?_) (fun hc => ?_)
      · replace hF := (okB_if hF).2 hc
        refine v_aload_n (pc := 36) (i := 0) dX10_press_36 rfl rfl ?_
        refine s_getI (pc := 37) dX10_press_37 flX10_220 rfl hF (fun x6 hF => ?_)
        refine v_iload_n (pc := 40) (i := 2) dX10_press_40 rfl rfl ?_
        refine v_ior (pc := 41) dX10_press_41 ?_
        exact v_room (k' := 0) (n' := 0) (by decide) (by decide) <| v_lle [some (sr (some a0)), none, some (si x1)] ⟨rfl, rfl, trivial⟩ (hj5 _ (okB_some hF))
      replace hF := (okB_if hF).1 hc
      refine v_iload_n (pc := 32) (i := 2) dX10_press_32 rfl rfl ?_
      refine v_goto (pc := 33) 42 dX10_press_33 rfl ?_
      exact v_room (k' := 0) (n' := 0) (by decide) (by decide) <| v_lle [some (sr (some a0)), none, some (si x1)] ⟨rfl, rfl, trivial⟩ (hj5 _ (okB_some hF))
    refine s_putI (pc := 42) dX10_press_42 flX10_220 (Or.inl rfl) rfl hF (fun h7 hF => ?_)
    refine v_aload_n (pc := 45) (i := 0) dX10_press_45 rfl rfl ?_
    refine v_dup (pc := 46) dX10_press_46 rfl ?_
    refine s_getI (pc := 47) dX10_press_47 flX10_215 rfl hF (fun x8 hF => ?_)
    refine v_iload_n (pc := 50) (i := 2) dX10_press_50 rfl rfl ?_
    refine v_ior (pc := 51) dX10_press_51 ?_
    refine s_putI (pc := 52) dX10_press_52 flX10_215 (Or.inl rfl) rfl hF (fun h9 hF => ?_)
    refine v_aload_n (pc := 55) (i := 0) dX10_press_55 rfl rfl ?_
    refine s_getI (pc := 56) dX10_press_56 flX10_215 rfl hF (fun x10 hF => ?_)
    refine cp_S (pc := 59) gI (as := [si x10]) (st := []) (k := 0) (n := 0) dX10_press_59 lkX10_223 caJ6_bitCount_0f7a4 csJ6_bitCount_0f7a4 rfl (fun Q1 hq => tJ6_bitCount_0f7a4 x10 h9 Q1 hq) ⟨by decide, by decide⟩ (Nat.le_of_ble_eq_true rfl) rfl hF (fun x11 hF => ?_)
    show gV G mX10_press 7 Q 62 [some (sr (some a0)), none, some (si x1)] [si x11] (0) (0) h9
    exact v_iret (pc := 62) dX10_press_62 rfl rfl (okr hF fun q => q)
  replace hF := (okB_if hF).2 hc
  exact v_throw (pc := 14) (k := 0) (n := 0) 28 dX10_press_14 dX10_press_17 dX10_press_18 dX10_press_20 dX10_press_23 rfl tfit_IllegalStateException tnames twX10_63_67 rfl (by decide) (Nat.le_of_ble_eq_true rfl) rfl (okr hF fun q => q)
/-! BrailleDesk.release -/
def fX10_release (a0 : Nat) (a1 : Int32) (h : hp) : Option ((Int32 ⊕ String) × hp) :=
  oC (fX10_keyBit a1) (fun E => (.inr E, h)) fun x1 =>
  (oGI 9 5 (some a0) h).bind fun x2 =>
  if (x2 &&& x1) = 0 then
  (some ((.inr "java/lang/IllegalStateException", h)))
  else
  (oGI 9 5 (some a0) h).bind fun x3 =>
  (oPI 9 5 (some a0) (x3 &&& (x1 ^^^ (-1 : Int32))) h).bind fun h4 =>
  (oGI 9 5 (some a0) h4).bind fun x5 =>
  Option.bind (α := hp)
  (if x5 = 0 then
  ((oGR 9 3 (some a0) h4).bind fun x8 =>
  (oGI 9 6 (some a0) h4).bind fun x9 =>
  (oOb 4 x8 h4).bind fun b =>
  o2 (fX5_obey b x9 h4) fun _ h11 =>
  some h11)
  else
  some h4)
  fun q6 =>
  (oGI 9 5 (some a0) q6).bind fun x12 =>
  (fJ6_bitCount_0f7a4 x12).bind fun x13 =>
  some ((.inl x13, q6))
theorem tX10_release {G : gG} (a0 : Nat) (a1 : Int32) (h : hp) (Q : hQ) (hF : okB (fX10_release a0 a1 h) (pX gI Q)) : gS G mX10_release 9 2 12 [sr (some a0), si a1] h Q := by
  delta fX10_release at hF
  refine gS_at [some (sr (some a0)), some (si a1), none] pl_X10 rfl (Nat.le_of_ble_eq_true rfl) rfl ?_
  refine v_iload_n (pc := 0) (i := 1) dX10_release_0 rfl rfl ?_
  refine ct_S (pc := 1) gI (as := [si a1]) (st := []) (k := 1) (n := 6) dX10_release_1 lkX10_211 caX10_keyBit csX10_keyBit rfl (fun Q1 hq => tX10_keyBit a1 h Q1 hq) ⟨by decide, by decide⟩ (Nat.le_of_ble_eq_true rfl) rfl hF (fun E hp => hp) (fun x1 hF => ?_)
  show gV G mX10_release 9 Q 4 [some (sr (some a0)), some (si a1), none] [si x1] (1) (6) h
  refine v_istore_n (pc := 4) (i := 2) [some (sr (some a0)), some (si a1), some (si x1)] dX10_release_4 rfl (by decide) rfl rfl ?_
  refine v_aload_n (pc := 5) (i := 0) dX10_release_5 rfl rfl ?_
  refine s_getI (pc := 6) dX10_release_6 flX10_215 rfl hF (fun x2 hF => ?_)
  refine v_iload_n (pc := 9) (i := 2) dX10_release_9 rfl rfl ?_
  refine v_iand (pc := 10) dX10_release_10 ?_
  refine v_if_ne (pc := 11) 24 dX10_release_11 rfl (fun hc => ?_) (fun hc => ?_)
  · replace hF := (okB_if hF).2 hc
    refine v_aload_n (pc := 24) (i := 0) dX10_release_24 rfl rfl ?_
    refine v_dup (pc := 25) dX10_release_25 rfl ?_
    refine s_getI (pc := 26) dX10_release_26 flX10_215 rfl hF (fun x3 hF => ?_)
    refine v_iload_n (pc := 29) (i := 2) dX10_release_29 rfl rfl ?_
    refine v_iconst (pc := 30) (v := (-1 : Int32)) dX10_release_30 rfl ?_
    refine v_ixor (pc := 31) dX10_release_31 ?_
    refine v_iand (pc := 32) dX10_release_32 ?_
    refine s_putI (pc := 33) dX10_release_33 flX10_215 (Or.inl rfl) rfl hF (fun h4 hF => ?_)
    refine v_aload_n (pc := 36) (i := 0) dX10_release_36 rfl rfl ?_
    refine s_getI (pc := 37) dX10_release_37 flX10_215 rfl hF (fun x5 hF => ?_)
    refine mg (X := fun q6 => gV G mX10_release 9 Q 54 [some (sr (some a0)), none, none] [] (0) (0) q6) hF (fun _ hj7 hF => ?_) (fun q6 hF => ?_)
    · refine v_if_ne (pc := 40) 54 dX10_release_40 rfl (fun hc => ?_) (fun hc => ?_)
      · replace hF := (okB_if hF).2 hc
        exact v_room (k' := 0) (n' := 0) (by decide) (by decide) <| v_lle [some (sr (some a0)), none, none] ⟨rfl, trivial⟩ (hj7 _ (okB_some hF))
      replace hF := (okB_if hF).1 hc
      refine v_aload_n (pc := 43) (i := 0) dX10_release_43 rfl rfl ?_
      refine s_getR (pc := 44) dX10_release_44 flX10_35 rfl hF (fun x8 hF => ?_)
      refine v_aload_n (pc := 47) (i := 0) dX10_release_47 rfl rfl ?_
      refine s_getI (pc := 48) dX10_release_48 flX10_220 rfl hF (fun x9 hF => ?_)
      refine ch_V (pc := 51) gU (as := [si x9]) (st := []) (ci := 4) (k := 1) (n := 6) dX10_release_51 lkX10_230 caX5_obey cvX5_obey rfl (by decide) rfl (fun b Q1 hq => tX5_obey b x9 h4 Q1 hq) ⟨by decide, by decide⟩ (Nat.le_of_ble_eq_true rfl) rfl hF (fun x10 h11 hF => ?_)
      show gV G mX10_release 9 Q 54 [some (sr (some a0)), some (si a1), some (si x1)] [] (1) (6) h11
      exact v_room (k' := 0) (n' := 0) (by decide) (by decide) <| v_lle [some (sr (some a0)), none, none] ⟨rfl, trivial⟩ (hj7 _ (okB_some hF))
    refine v_aload_n (pc := 54) (i := 0) dX10_release_54 rfl rfl ?_
    refine s_getI (pc := 55) dX10_release_55 flX10_215 rfl hF (fun x12 hF => ?_)
    refine cp_S (pc := 58) gI (as := [si x12]) (st := []) (k := 0) (n := 0) dX10_release_58 lkX10_223 caJ6_bitCount_0f7a4 csJ6_bitCount_0f7a4 rfl (fun Q1 hq => tJ6_bitCount_0f7a4 x12 q6 Q1 hq) ⟨by decide, by decide⟩ (Nat.le_of_ble_eq_true rfl) rfl hF (fun x13 hF => ?_)
    show gV G mX10_release 9 Q 61 [some (sr (some a0)), none, none] [si x13] (0) (0) q6
    exact v_iret (pc := 61) dX10_release_61 rfl rfl (okr hF fun q => q)
  replace hF := (okB_if hF).1 hc
  exact v_throw (pc := 14) (k := 0) (n := 0) 29 dX10_release_14 dX10_release_17 dX10_release_18 dX10_release_20 dX10_release_23 rfl tfit_IllegalStateException tnames twX10_63_67 rfl (by decide) (Nat.le_of_ble_eq_true rfl) rfl (okr hF fun q => q)
/-! BrailleDesk.chord -/
def fX10_chord (a0 : Nat) (a1 : Int32) (h : hp) : Option ((Int32 ⊕ String) × hp) :=
  if a1 < (1 : Int32) then
  (some ((.inr "java/lang/IllegalArgumentException", h)))
  else
  if a1 ≤ (511 : Int32) then
  ((oGI 9 5 (some a0) h).bind fun x1 =>
  if x1 = 0 then
  ((oGR 9 3 (some a0) h).bind fun x2 =>
  (oOb 4 x2 h).bind fun b =>
  o2 (fX5_obey b a1 h) fun _ h4 =>
  (oGR 9 3 (some a0) h4).bind fun x5 =>
  (oGR 4 5 x5 h4).bind fun x6 =>
  (oGI 1 0 x6 h4).bind fun x7 =>
  some ((.inl x7, h4)))
  else
  some ((.inr "java/lang/IllegalStateException", h)))
  else
  some ((.inr "java/lang/IllegalArgumentException", h))
theorem tX10_chord {G : gG} (a0 : Nat) (a1 : Int32) (h : hp) (Q : hQ) (hF : okB (fX10_chord a0 a1 h) (pX gI Q)) : gS G mX10_chord 9 1 6 [sr (some a0), si a1] h Q := by
  delta fX10_chord at hF
  refine gS_at [some (sr (some a0)), some (si a1)] pl_X10 rfl (Nat.le_of_ble_eq_true rfl) rfl ?_
  refine v_iload_n (pc := 0) (i := 1) dX10_chord_0 rfl rfl ?_
  refine v_iconst (pc := 1) (v := (1 : Int32)) dX10_chord_1 rfl ?_
  refine v_icmp_lt (pc := 2) 12 dX10_chord_2 rfl (fun hc => ?_) (fun hc => ?_)
  · replace hF := (okB_if hF).1 hc
    exact v_throw (pc := 12) (k := 0) (n := 0) 38 dX10_chord_12 dX10_chord_15 dX10_chord_16 dX10_chord_18 dX10_chord_21 rfl tfit_IllegalArgumentException tnames twX10_52_56 rfl (by decide) (Nat.le_of_ble_eq_true rfl) rfl (okr hF fun q => q)
  replace hF := (okB_if hF).2 hc
  refine v_iload_n (pc := 5) (i := 1) dX10_chord_5 rfl rfl ?_
  refine v_sipush (pc := 6) (v := (511 : Int32)) dX10_chord_6 rfl ?_
  refine v_icmp_le (pc := 9) 22 dX10_chord_9 rfl (fun hc => ?_) (fun hc => ?_)
  · replace hF := (okB_if hF).1 hc
    refine v_aload_n (pc := 22) (i := 0) dX10_chord_22 rfl rfl ?_
    refine s_getI (pc := 23) dX10_chord_23 flX10_215 rfl hF (fun x1 hF => ?_)
    refine v_if_eq (pc := 26) 39 dX10_chord_26 rfl (fun hc => ?_) (fun hc => ?_)
    · replace hF := (okB_if hF).1 hc
      refine v_aload_n (pc := 39) (i := 0) dX10_chord_39 rfl rfl ?_
      refine s_getR (pc := 40) dX10_chord_40 flX10_35 rfl hF (fun x2 hF => ?_)
      refine v_iload_n (pc := 43) (i := 1) dX10_chord_43 rfl rfl ?_
      refine ch_V (pc := 44) gU (as := [si a1]) (st := []) (ci := 4) (k := 1) (n := 6) dX10_chord_44 lkX10_230 caX5_obey cvX5_obey rfl (by decide) rfl (fun b Q1 hq => tX5_obey b a1 h Q1 hq) ⟨by decide, by decide⟩ (Nat.le_of_ble_eq_true rfl) rfl hF (fun x3 h4 hF => ?_)
      show gV G mX10_chord 9 Q 47 [some (sr (some a0)), some (si a1)] [] (1) (6) h4
      refine v_aload_n (pc := 47) (i := 0) dX10_chord_47 rfl rfl ?_
      refine s_getR (pc := 48) dX10_chord_48 flX10_35 rfl hF (fun x5 hF => ?_)
      refine s_getR (pc := 51) dX10_chord_51 flX10_237 rfl hF (fun x6 hF => ?_)
      refine s_getI (pc := 54) dX10_chord_54 flX10_103 rfl hF (fun x7 hF => ?_)
      exact v_iret (pc := 57) dX10_chord_57 rfl rfl (okr hF fun q => q)
    replace hF := (okB_if hF).2 hc
    exact v_throw (pc := 29) (k := 0) (n := 0) 39 dX10_chord_29 dX10_chord_32 dX10_chord_33 dX10_chord_35 dX10_chord_38 rfl tfit_IllegalStateException tnames twX10_63_67 rfl (by decide) (Nat.le_of_ble_eq_true rfl) rfl (okr hF fun q => q)
  replace hF := (okB_if hF).2 hc
  exact v_throw (pc := 12) (k := 0) (n := 0) 38 dX10_chord_12 dX10_chord_15 dX10_chord_16 dX10_chord_18 dX10_chord_21 rfl tfit_IllegalArgumentException tnames twX10_52_56 rfl (by decide) (Nat.le_of_ble_eq_true rfl) rfl (okr hF fun q => q)
/-! BrailleDesk.cursor -/
def fX10_cursor (a0 : Nat) (h : hp) : Option Int32 :=
  (oGR 9 3 (some a0) h).bind fun x1 =>
  (oGR 4 5 x1 h).bind fun x2 =>
  (oGI 1 0 x2 h).bind fun x3 =>
  some (x3)
theorem tX10_cursor {G : gG} (a0 : Nat) (h : hp) (Q : hQ) (hF : okB (fX10_cursor a0 h) (pP gI Q h)) : gS G mX10_cursor 0 0 0 [sr (some a0)] h Q := by
  delta fX10_cursor at hF
  refine gS_at [some (sr (some a0))] pl_X10 rfl (Nat.le_of_ble_eq_true rfl) rfl ?_
  refine v_aload_n (pc := 0) (i := 0) dX10_cursor_0 rfl rfl ?_
  refine s_getR (pc := 1) dX10_cursor_1 flX10_35 rfl hF (fun x1 hF => ?_)
  refine s_getR (pc := 4) dX10_cursor_4 flX10_237 rfl hF (fun x2 hF => ?_)
  refine s_getI (pc := 7) dX10_cursor_7 flX10_103 rfl hF (fun x3 hF => ?_)
  exact v_iret (pc := 10) dX10_cursor_10 rfl rfl (okr hF fun q => q)
