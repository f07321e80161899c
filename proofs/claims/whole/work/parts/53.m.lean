/-! ===== methods: their functions and rows ===== -/
theorem dX11_release_0 : decode cX11_release 0 = .ok (.aload_n 0, 1) := by decide +kernel
theorem dX11_release_1 : decode cX11_release 1 = .ok (.iload_n 1, 1) := by decide +kernel
theorem dX11_release_2 : decode cX11_release 2 = .ok (.iconst 0, 1) := by decide +kernel
theorem dX11_release_3 : decode cX11_release 3 = .ok (.bipush 8, 2) := by decide +kernel
theorem dX11_release_5 : decode cX11_release 5 = .ok (.invokestatic 114, 3) := by decide +kernel
theorem dX11_release_8 : decode cX11_release 8 = .ok (.ifCond .ne 7, 3) := by decide +kernel
theorem dX11_release_11 : decode cX11_release 11 = .ok (.iconst 1, 1) := by decide +kernel
theorem dX11_release_12 : decode cX11_release 12 = .ok (.goto 19, 3) := by decide +kernel
theorem dX11_release_15 : decode cX11_release 15 = .ok (.aload_n 0, 1) := by decide +kernel
theorem dX11_release_16 : decode cX11_release 16 = .ok (.getfield 394, 3) := by decide +kernel
theorem dX11_release_19 : decode cX11_release 19 = .ok (.iload_n 1, 1) := by decide +kernel
theorem dX11_release_20 : decode cX11_release 20 = .ok (.ishr, 1) := by decide +kernel
theorem dX11_release_21 : decode cX11_release 21 = .ok (.iconst 1, 1) := by decide +kernel
theorem dX11_release_22 : decode cX11_release 22 = .ok (.iand, 1) := by decide +kernel
theorem dX11_release_23 : decode cX11_release 23 = .ok (.ifCond .ne 7, 3) := by decide +kernel
theorem dX11_release_26 : decode cX11_release 26 = .ok (.iconst 2, 1) := by decide +kernel
theorem dX11_release_27 : decode cX11_release 27 = .ok (.goto 4, 3) := by decide +kernel
theorem dX11_release_30 : decode cX11_release 30 = .ok (.iconst 0, 1) := by decide +kernel
theorem dX11_release_31 : decode cX11_release 31 = .ok (.putfield 111, 3) := by decide +kernel
theorem dX11_release_34 : decode cX11_release 34 = .ok (.aload_n 0, 1) := by decide +kernel
theorem dX11_release_35 : decode cX11_release 35 = .ok (.getfield 111, 3) := by decide +kernel
theorem dX11_release_38 : decode cX11_release 38 = .ok (.ifCond .le 5, 3) := by decide +kernel
theorem dX11_release_41 : decode cX11_release 41 = .ok (.iconst 0, 1) := by decide +kernel
theorem dX11_release_42 : decode cX11_release 42 = .ok (.ireturn, 1) := by decide +kernel
theorem dX11_release_43 : decode cX11_release 43 = .ok (.aload_n 0, 1) := by decide +kernel
theorem dX11_release_44 : decode cX11_release 44 = .ok (.dup, 1) := by decide +kernel
theorem dX11_release_45 : decode cX11_release 45 = .ok (.getfield 394, 3) := by decide +kernel
theorem dX11_release_48 : decode cX11_release 48 = .ok (.iconst 1, 1) := by decide +kernel
theorem dX11_release_49 : decode cX11_release 49 = .ok (.iload_n 1, 1) := by decide +kernel
theorem dX11_release_50 : decode cX11_release 50 = .ok (.ishl, 1) := by decide +kernel
theorem dX11_release_51 : decode cX11_release 51 = .ok (.iconst (-1), 1) := by decide +kernel
theorem dX11_release_52 : decode cX11_release 52 = .ok (.ixor, 1) := by decide +kernel
theorem dX11_release_53 : decode cX11_release 53 = .ok (.iand, 1) := by decide +kernel
theorem dX11_release_54 : decode cX11_release 54 = .ok (.putfield 394, 3) := by decide +kernel
theorem dX11_release_57 : decode cX11_release 57 = .ok (.aload_n 0, 1) := by decide +kernel
theorem dX11_release_58 : decode cX11_release 58 = .ok (.getfield 394, 3) := by decide +kernel
theorem dX11_release_61 : decode cX11_release 61 = .ok (.ifCond .ne 11, 3) := by decide +kernel
theorem dX11_release_64 : decode cX11_release 64 = .ok (.aload_n 0, 1) := by decide +kernel
theorem dX11_release_65 : decode cX11_release 65 = .ok (.aload_n 0, 1) := by decide +kernel
theorem dX11_release_66 : decode cX11_release 66 = .ok (.getfield 397, 3) := by decide +kernel
theorem dX11_release_69 : decode cX11_release 69 = .ok (.invokevirtual 403, 3) := by decide +kernel
theorem dX11_release_72 : decode cX11_release 72 = .ok (.aload_n 0, 1) := by decide +kernel
theorem dX11_release_73 : decode cX11_release 73 = .ok (.getfield 394, 3) := by decide +kernel
theorem dX11_release_76 : decode cX11_release 76 = .ok (.invokestatic 400, 3) := by decide +kernel
theorem dX11_release_79 : decode cX11_release 79 = .ok (.ireturn, 1) := by decide +kernel
theorem dX11_chord_0 : decode cX11_chord 0 = .ok (.aload_n 0, 1) := by decide +kernel
theorem dX11_chord_1 : decode cX11_chord 1 = .ok (.iload_n 1, 1) := by decide +kernel
theorem dX11_chord_2 : decode cX11_chord 2 = .ok (.iconst 1, 1) := by decide +kernel
theorem dX11_chord_3 : decode cX11_chord 3 = .ok (.sipush 511, 3) := by decide +kernel
theorem dX11_chord_6 : decode cX11_chord 6 = .ok (.invokestatic 114, 3) := by decide +kernel
theorem dX11_chord_9 : decode cX11_chord 9 = .ok (.ifCond .ne 7, 3) := by decide +kernel
theorem dX11_chord_12 : decode cX11_chord 12 = .ok (.iconst 1, 1) := by decide +kernel
theorem dX11_chord_13 : decode cX11_chord 13 = .ok (.goto 15, 3) := by decide +kernel
theorem dX11_chord_16 : decode cX11_chord 16 = .ok (.aload_n 0, 1) := by decide +kernel
theorem dX11_chord_17 : decode cX11_chord 17 = .ok (.getfield 394, 3) := by decide +kernel
theorem dX11_chord_20 : decode cX11_chord 20 = .ok (.ifCond .le 7, 3) := by decide +kernel
theorem dX11_chord_23 : decode cX11_chord 23 = .ok (.iconst 2, 1) := by decide +kernel
theorem dX11_chord_24 : decode cX11_chord 24 = .ok (.goto 4, 3) := by decide +kernel
theorem dX11_chord_27 : decode cX11_chord 27 = .ok (.iconst 0, 1) := by decide +kernel
theorem dX11_chord_28 : decode cX11_chord 28 = .ok (.putfield 111, 3) := by decide +kernel
theorem dX11_chord_31 : decode cX11_chord 31 = .ok (.aload_n 0, 1) := by decide +kernel
theorem dX11_chord_32 : decode cX11_chord 32 = .ok (.getfield 111, 3) := by decide +kernel
theorem dX11_chord_35 : decode cX11_chord 35 = .ok (.ifCond .le 5, 3) := by decide +kernel
theorem dX11_chord_38 : decode cX11_chord 38 = .ok (.iconst 0, 1) := by decide +kernel
theorem dX11_chord_39 : decode cX11_chord 39 = .ok (.ireturn, 1) := by decide +kernel
theorem dX11_chord_40 : decode cX11_chord 40 = .ok (.aload_n 0, 1) := by decide +kernel
theorem dX11_chord_41 : decode cX11_chord 41 = .ok (.iload_n 1, 1) := by decide +kernel
theorem dX11_chord_42 : decode cX11_chord 42 = .ok (.invokevirtual 403, 3) := by decide +kernel
theorem dX11_chord_45 : decode cX11_chord 45 = .ok (.aload_n 0, 1) := by decide +kernel
theorem dX11_chord_46 : decode cX11_chord 46 = .ok (.getfield 128, 3) := by decide +kernel
theorem dX11_chord_49 : decode cX11_chord 49 = .ok (.ireturn, 1) := by decide +kernel
theorem dX11_cursor_0 : decode cX11_cursor 0 = .ok (.aload_n 0, 1) := by decide +kernel
theorem dX11_cursor_1 : decode cX11_cursor 1 = .ok (.iconst 0, 1) := by decide +kernel
theorem dX11_cursor_2 : decode cX11_cursor 2 = .ok (.putfield 111, 3) := by decide +kernel
theorem dX11_cursor_5 : decode cX11_cursor 5 = .ok (.aload_n 0, 1) := by decide +kernel
theorem dX11_cursor_6 : decode cX11_cursor 6 = .ok (.getfield 128, 3) := by decide +kernel
theorem dX11_cursor_9 : decode cX11_cursor 9 = .ok (.ireturn, 1) := by decide +kernel
theorem dX11_focus_0 : decode cX11_focus 0 = .ok (.aload_n 0, 1) := by decide +kernel
theorem dX11_focus_1 : decode cX11_focus 1 = .ok (.iconst 0, 1) := by decide +kernel
theorem dX11_focus_2 : decode cX11_focus 2 = .ok (.putfield 111, 3) := by decide +kernel
theorem dX11_focus_5 : decode cX11_focus 5 = .ok (.aload_n 0, 1) := by decide +kernel
theorem dX11_focus_6 : decode cX11_focus 6 = .ok (.getfield 105, 3) := by decide +kernel
theorem dX11_focus_9 : decode cX11_focus 9 = .ok (.ireturn, 1) := by decide +kernel
theorem dX11_isTyping_0 : decode cX11_isTyping 0 = .ok (.aload_n 0, 1) := by decide +kernel
theorem dX11_isTyping_1 : decode cX11_isTyping 1 = .ok (.iconst 0, 1) := by decide +kernel
theorem dX11_isTyping_2 : decode cX11_isTyping 2 = .ok (.putfield 111, 3) := by decide +kernel
theorem dX11_isTyping_5 : decode cX11_isTyping 5 = .ok (.aload_n 0, 1) := by decide +kernel
theorem dX11_isTyping_6 : decode cX11_isTyping 6 = .ok (.getfield 267, 3) := by decide +kernel
theorem dX11_isTyping_9 : decode cX11_isTyping 9 = .ok (.ireturn, 1) := by decide +kernel
theorem dX11_offset_0 : decode cX11_offset 0 = .ok (.aload_n 0, 1) := by decide +kernel
theorem dX11_offset_1 : decode cX11_offset 1 = .ok (.iconst 0, 1) := by decide +kernel
theorem dX11_offset_2 : decode cX11_offset 2 = .ok (.putfield 111, 3) := by decide +kernel
theorem dX11_offset_5 : decode cX11_offset 5 = .ok (.aload_n 0, 1) := by decide +kernel
theorem dX11_offset_6 : decode cX11_offset 6 = .ok (.getfield 274, 3) := by decide +kernel
theorem dX11_offset_9 : decode cX11_offset 9 = .ok (.ireturn, 1) := by decide +kernel
theorem dX11_lineLength_0 : decode cX11_lineLength 0 = .ok (.aload_n 0, 1) := by decide +kernel
theorem dX11_lineLength_1 : decode cX11_lineLength 1 = .ok (.iconst 0, 1) := by decide +kernel
theorem dX11_lineLength_2 : decode cX11_lineLength 2 = .ok (.putfield 111, 3) := by decide +kernel
theorem dX11_lineLength_5 : decode cX11_lineLength 5 = .ok (.aload_n 0, 1) := by decide +kernel
theorem dX11_lineLength_6 : decode cX11_lineLength 6 = .ok (.invokevirtual 271, 3) := by decide +kernel
theorem dX11_lineLength_9 : decode cX11_lineLength 9 = .ok (.aload_n 0, 1) := by decide +kernel
theorem dX11_lineLength_10 : decode cX11_lineLength 10 = .ok (.getfield 236, 3) := by decide +kernel
theorem dX11_lineLength_13 : decode cX11_lineLength 13 = .ok (.ireturn, 1) := by decide +kernel
theorem dX11_pin_0 : decode cX11_pin 0 = .ok (.aload_n 0, 1) := by decide +kernel
theorem dX11_pin_1 : decode cX11_pin 1 = .ok (.iload_n 1, 1) := by decide +kernel
theorem dX11_pin_2 : decode cX11_pin 2 = .ok (.iconst 0, 1) := by decide +kernel
theorem dX11_pin_3 : decode cX11_pin 3 = .ok (.bipush 9, 2) := by decide +kernel
theorem dX11_pin_5 : decode cX11_pin 5 = .ok (.invokestatic 114, 3) := by decide +kernel
theorem dX11_pin_8 : decode cX11_pin 8 = .ok (.ifCond .eq 7, 3) := by decide +kernel
theorem dX11_pin_11 : decode cX11_pin 11 = .ok (.iconst 0, 1) := by decide +kernel
theorem dX11_pin_12 : decode cX11_pin 12 = .ok (.goto 4, 3) := by decide +kernel
theorem dX11_pin_15 : decode cX11_pin 15 = .ok (.iconst 1, 1) := by decide +kernel
theorem dX11_pin_16 : decode cX11_pin 16 = .ok (.putfield 111, 3) := by decide +kernel
theorem dX11_pin_19 : decode cX11_pin 19 = .ok (.aload_n 0, 1) := by decide +kernel
theorem dX11_pin_20 : decode cX11_pin 20 = .ok (.invokevirtual 271, 3) := by decide +kernel
theorem dX11_pin_23 : decode cX11_pin 23 = .ok (.aload_n 0, 1) := by decide +kernel
theorem dX11_pin_24 : decode cX11_pin 24 = .ok (.getfield 111, 3) := by decide +kernel
theorem dX11_pin_27 : decode cX11_pin 27 = .ok (.ifCond .ne 30, 3) := by decide +kernel
theorem dX11_pin_30 : decode cX11_pin 30 = .ok (.aload_n 0, 1) := by decide +kernel
theorem dX11_pin_31 : decode cX11_pin 31 = .ok (.getfield 274, 3) := by decide +kernel
theorem dX11_pin_34 : decode cX11_pin 34 = .ok (.iload_n 1, 1) := by decide +kernel
theorem dX11_pin_35 : decode cX11_pin 35 = .ok (.iadd, 1) := by decide +kernel
theorem dX11_pin_36 : decode cX11_pin 36 = .ok (.aload_n 0, 1) := by decide +kernel
theorem dX11_pin_37 : decode cX11_pin 37 = .ok (.getfield 236, 3) := by decide +kernel
theorem dX11_pin_40 : decode cX11_pin 40 = .ok (.if_icmp .ge 17, 3) := by decide +kernel
theorem dX11_pin_43 : decode cX11_pin 43 = .ok (.aload_n 0, 1) := by decide +kernel
theorem dX11_pin_44 : decode cX11_pin 44 = .ok (.getfield 98, 3) := by decide +kernel
theorem dX11_pin_47 : decode cX11_pin 47 = .ok (.aload_n 0, 1) := by decide +kernel
theorem dX11_pin_48 : decode cX11_pin 48 = .ok (.getfield 274, 3) := by decide +kernel
theorem dX11_pin_51 : decode cX11_pin 51 = .ok (.iload_n 1, 1) := by decide +kernel
theorem dX11_pin_52 : decode cX11_pin 52 = .ok (.iadd, 1) := by decide +kernel
theorem dX11_pin_53 : decode cX11_pin 53 = .ok (.iaload, 1) := by decide +kernel
theorem dX11_pin_54 : decode cX11_pin 54 = .ok (.goto 4, 3) := by decide +kernel
theorem dX11_pin_57 : decode cX11_pin 57 = .ok (.iconst 0, 1) := by decide +kernel
theorem dX11_pin_58 : decode cX11_pin 58 = .ok (.ireturn, 1) := by decide +kernel
theorem dX11_pinAnew_0 : decode cX11_pinAnew 0 = .ok (.aload_n 0, 1) := by decide +kernel
theorem dX11_pinAnew_1 : decode cX11_pinAnew 1 = .ok (.iload_n 1, 1) := by decide +kernel
theorem dX11_pinAnew_2 : decode cX11_pinAnew 2 = .ok (.invokevirtual 406, 3) := by decide +kernel
theorem dX11_pinAnew_5 : decode cX11_pinAnew 5 = .ok (.ireturn, 1) := by decide +kernel
theorem dX11_wordsLength_0 : decode cX11_wordsLength 0 = .ok (.aload_n 0, 1) := by decide +kernel
theorem dX11_wordsLength_1 : decode cX11_wordsLength 1 = .ok (.aload_n 0, 1) := by decide +kernel
theorem dX11_wordsLength_2 : decode cX11_wordsLength 2 = .ok (.iload_n 1, 1) := by decide +kernel
theorem dX11_wordsLength_3 : decode cX11_wordsLength 3 = .ok (.invokevirtual 118, 3) := by decide +kernel
theorem dX11_wordsLength_6 : decode cX11_wordsLength 6 = .ok (.ifCond .ne 7, 3) := by decide +kernel
theorem dX11_wordsLength_9 : decode cX11_wordsLength 9 = .ok (.iconst 1, 1) := by decide +kernel
theorem dX11_wordsLength_10 : decode cX11_wordsLength 10 = .ok (.goto 16, 3) := by decide +kernel
theorem dX11_wordsLength_13 : decode cX11_wordsLength 13 = .ok (.aload_n 0, 1) := by decide +kernel
theorem dX11_wordsLength_14 : decode cX11_wordsLength 14 = .ok (.iload_n 1, 1) := by decide +kernel
theorem dX11_wordsLength_15 : decode cX11_wordsLength 15 = .ok (.invokevirtual 224, 3) := by decide +kernel
theorem dX11_wordsLength_18 : decode cX11_wordsLength 18 = .ok (.ifCond .ne 7, 3) := by decide +kernel
theorem dX11_wordsLength_21 : decode cX11_wordsLength 21 = .ok (.iconst 2, 1) := by decide +kernel
theorem dX11_wordsLength_22 : decode cX11_wordsLength 22 = .ok (.goto 4, 3) := by decide +kernel
theorem dX11_wordsLength_25 : decode cX11_wordsLength 25 = .ok (.iconst 0, 1) := by decide +kernel
theorem dX11_wordsLength_26 : decode cX11_wordsLength 26 = .ok (.putfield 111, 3) := by decide +kernel
theorem dX11_wordsLength_29 : decode cX11_wordsLength 29 = .ok (.aload_n 0, 1) := by decide +kernel
theorem dX11_wordsLength_30 : decode cX11_wordsLength 30 = .ok (.getfield 111, 3) := by decide +kernel
theorem dX11_wordsLength_33 : decode cX11_wordsLength 33 = .ok (.ifCond .le 5, 3) := by decide +kernel
theorem dX11_wordsLength_36 : decode cX11_wordsLength 36 = .ok (.iconst 0, 1) := by decide +kernel
theorem dX11_wordsLength_37 : decode cX11_wordsLength 37 = .ok (.ireturn, 1) := by decide +kernel
theorem dX11_wordsLength_38 : decode cX11_wordsLength 38 = .ok (.aload_n 0, 1) := by decide +kernel
theorem dX11_wordsLength_39 : decode cX11_wordsLength 39 = .ok (.iconst 0, 1) := by decide +kernel
theorem dX11_wordsLength_40 : decode cX11_wordsLength 40 = .ok (.putfield 143, 3) := by decide +kernel
theorem dX11_wordsLength_43 : decode cX11_wordsLength 43 = .ok (.aload_n 0, 1) := by decide +kernel
theorem dX11_wordsLength_44 : decode cX11_wordsLength 44 = .ok (.iload_n 1, 1) := by decide +kernel
theorem dX11_wordsLength_45 : decode cX11_wordsLength 45 = .ok (.invokevirtual 227, 3) := by decide +kernel
theorem dX11_wordsLength_48 : decode cX11_wordsLength 48 = .ok (.aload_n 0, 1) := by decide +kernel
theorem dX11_wordsLength_49 : decode cX11_wordsLength 49 = .ok (.getfield 143, 3) := by decide +kernel
theorem dX11_wordsLength_52 : decode cX11_wordsLength 52 = .ok (.ireturn, 1) := by decide +kernel
theorem dX11_wordsAt_0 : decode cX11_wordsAt 0 = .ok (.aload_n 0, 1) := by decide +kernel
theorem dX11_wordsAt_1 : decode cX11_wordsAt 1 = .ok (.aload_n 0, 1) := by decide +kernel
theorem dX11_wordsAt_2 : decode cX11_wordsAt 2 = .ok (.iload_n 1, 1) := by decide +kernel
theorem dX11_wordsAt_3 : decode cX11_wordsAt 3 = .ok (.invokevirtual 118, 3) := by decide +kernel
theorem dX11_wordsAt_6 : decode cX11_wordsAt 6 = .ok (.ifCond .ne 7, 3) := by decide +kernel
theorem dX11_wordsAt_9 : decode cX11_wordsAt 9 = .ok (.iconst 2, 1) := by decide +kernel
theorem dX11_wordsAt_10 : decode cX11_wordsAt 10 = .ok (.goto 16, 3) := by decide +kernel
theorem dX11_wordsAt_13 : decode cX11_wordsAt 13 = .ok (.aload_n 0, 1) := by decide +kernel
theorem dX11_wordsAt_14 : decode cX11_wordsAt 14 = .ok (.iload_n 1, 1) := by decide +kernel
theorem dX11_wordsAt_15 : decode cX11_wordsAt 15 = .ok (.invokevirtual 224, 3) := by decide +kernel
theorem dX11_wordsAt_18 : decode cX11_wordsAt 18 = .ok (.ifCond .ne 7, 3) := by decide +kernel
theorem dX11_wordsAt_21 : decode cX11_wordsAt 21 = .ok (.iconst 1, 1) := by decide +kernel
theorem dX11_wordsAt_22 : decode cX11_wordsAt 22 = .ok (.goto 4, 3) := by decide +kernel
theorem dX11_wordsAt_25 : decode cX11_wordsAt 25 = .ok (.iconst 0, 1) := by decide +kernel
theorem dX11_wordsAt_26 : decode cX11_wordsAt 26 = .ok (.putfield 111, 3) := by decide +kernel
theorem dX11_wordsAt_29 : decode cX11_wordsAt 29 = .ok (.aload_n 0, 1) := by decide +kernel
theorem dX11_wordsAt_30 : decode cX11_wordsAt 30 = .ok (.getfield 111, 3) := by decide +kernel
theorem dX11_wordsAt_33 : decode cX11_wordsAt 33 = .ok (.ifCond .le 5, 3) := by decide +kernel
theorem dX11_wordsAt_36 : decode cX11_wordsAt 36 = .ok (.iconst 0, 1) := by decide +kernel
theorem dX11_wordsAt_37 : decode cX11_wordsAt 37 = .ok (.ireturn, 1) := by decide +kernel
theorem dX11_wordsAt_38 : decode cX11_wordsAt 38 = .ok (.aload_n 0, 1) := by decide +kernel
theorem dX11_wordsAt_39 : decode cX11_wordsAt 39 = .ok (.iconst 0, 1) := by decide +kernel
theorem dX11_wordsAt_40 : decode cX11_wordsAt 40 = .ok (.putfield 143, 3) := by decide +kernel
theorem dX11_wordsAt_43 : decode cX11_wordsAt 43 = .ok (.aload_n 0, 1) := by decide +kernel
theorem dX11_wordsAt_44 : decode cX11_wordsAt 44 = .ok (.iload_n 1, 1) := by decide +kernel
theorem dX11_wordsAt_45 : decode cX11_wordsAt 45 = .ok (.invokevirtual 227, 3) := by decide +kernel
theorem dX11_wordsAt_48 : decode cX11_wordsAt 48 = .ok (.aload_n 0, 1) := by decide +kernel
theorem dX11_wordsAt_49 : decode cX11_wordsAt 49 = .ok (.iload_n 2, 1) := by decide +kernel
theorem dX11_wordsAt_50 : decode cX11_wordsAt 50 = .ok (.iconst 0, 1) := by decide +kernel
theorem dX11_wordsAt_51 : decode cX11_wordsAt 51 = .ok (.aload_n 0, 1) := by decide +kernel
theorem dX11_wordsAt_52 : decode cX11_wordsAt 52 = .ok (.getfield 143, 3) := by decide +kernel
theorem dX11_wordsAt_55 : decode cX11_wordsAt 55 = .ok (.iconst 1, 1) := by decide +kernel
theorem dX11_wordsAt_56 : decode cX11_wordsAt 56 = .ok (.isub, 1) := by decide +kernel
theorem dX11_wordsAt_57 : decode cX11_wordsAt 57 = .ok (.invokestatic 114, 3) := by decide +kernel
theorem dX11_wordsAt_60 : decode cX11_wordsAt 60 = .ok (.ifCond .eq 7, 3) := by decide +kernel
theorem dX11_wordsAt_63 : decode cX11_wordsAt 63 = .ok (.iconst 0, 1) := by decide +kernel
theorem dX11_wordsAt_64 : decode cX11_wordsAt 64 = .ok (.goto 4, 3) := by decide +kernel
theorem dX11_wordsAt_67 : decode cX11_wordsAt 67 = .ok (.iconst 2, 1) := by decide +kernel
theorem dX11_wordsAt_68 : decode cX11_wordsAt 68 = .ok (.putfield 111, 3) := by decide +kernel
theorem dX11_wordsAt_71 : decode cX11_wordsAt 71 = .ok (.aload_n 0, 1) := by decide +kernel
theorem dX11_wordsAt_72 : decode cX11_wordsAt 72 = .ok (.getfield 111, 3) := by decide +kernel
theorem dX11_wordsAt_75 : decode cX11_wordsAt 75 = .ok (.ifCond .ne 12, 3) := by decide +kernel
theorem dX11_wordsAt_78 : decode cX11_wordsAt 78 = .ok (.aload_n 0, 1) := by decide +kernel
theorem dX11_wordsAt_79 : decode cX11_wordsAt 79 = .ok (.getfield 65, 3) := by decide +kernel
theorem dX11_wordsAt_82 : decode cX11_wordsAt 82 = .ok (.iload_n 2, 1) := by decide +kernel
theorem dX11_wordsAt_83 : decode cX11_wordsAt 83 = .ok (.iaload, 1) := by decide +kernel
theorem dX11_wordsAt_84 : decode cX11_wordsAt 84 = .ok (.goto 4, 3) := by decide +kernel
theorem dX11_wordsAt_87 : decode cX11_wordsAt 87 = .ok (.iconst 0, 1) := by decide +kernel
theorem dX11_wordsAt_88 : decode cX11_wordsAt 88 = .ok (.ireturn, 1) := by decide +kernel
theorem dX11_beginSpeech_0 : decode cX11_beginSpeech 0 = .ok (.aload_n 0, 1) := by decide +kernel
theorem dX11_beginSpeech_1 : decode cX11_beginSpeech 1 = .ok (.getfield 191, 3) := by decide +kernel
theorem dX11_beginSpeech_4 : decode cX11_beginSpeech 4 = .ok (.ifCond .le 42, 3) := by decide +kernel
theorem dX11_beginSpeech_7 : decode cX11_beginSpeech 7 = .ok (.aload_n 0, 1) := by decide +kernel
theorem dX11_beginSpeech_8 : decode cX11_beginSpeech 8 = .ok (.iconst 2, 1) := by decide +kernel
theorem dX11_beginSpeech_9 : decode cX11_beginSpeech 9 = .ok (.putfield 108, 3) := by decide +kernel
theorem dX11_beginSpeech_12 : decode cX11_beginSpeech 12 = .ok (.aload_n 0, 1) := by decide +kernel
theorem dX11_beginSpeech_13 : decode cX11_beginSpeech 13 = .ok (.aload_n 0, 1) := by decide +kernel
theorem dX11_beginSpeech_14 : decode cX11_beginSpeech 14 = .ok (.getfield 80, 3) := by decide +kernel
theorem dX11_beginSpeech_17 : decode cX11_beginSpeech 17 = .ok (.iconst 0, 1) := by decide +kernel
theorem dX11_beginSpeech_18 : decode cX11_beginSpeech 18 = .ok (.iaload, 1) := by decide +kernel
theorem dX11_beginSpeech_19 : decode cX11_beginSpeech 19 = .ok (.putfield 200, 3) := by decide +kernel
theorem dX11_beginSpeech_22 : decode cX11_beginSpeech 22 = .ok (.aload_n 0, 1) := by decide +kernel
theorem dX11_beginSpeech_23 : decode cX11_beginSpeech 23 = .ok (.getfield 77, 3) := by decide +kernel
theorem dX11_beginSpeech_26 : decode cX11_beginSpeech 26 = .ok (.iconst 0, 1) := by decide +kernel
theorem dX11_beginSpeech_27 : decode cX11_beginSpeech 27 = .ok (.aload_n 0, 1) := by decide +kernel
theorem dX11_beginSpeech_28 : decode cX11_beginSpeech 28 = .ok (.getfield 83, 3) := by decide +kernel
theorem dX11_beginSpeech_31 : decode cX11_beginSpeech 31 = .ok (.iconst 0, 1) := by decide +kernel
theorem dX11_beginSpeech_32 : decode cX11_beginSpeech 32 = .ok (.aload_n 0, 1) := by decide +kernel
theorem dX11_beginSpeech_33 : decode cX11_beginSpeech 33 = .ok (.getfield 200, 3) := by decide +kernel
theorem dX11_beginSpeech_36 : decode cX11_beginSpeech 36 = .ok (.invokestatic 181, 3) := by decide +kernel
theorem dX11_beginSpeech_39 : decode cX11_beginSpeech 39 = .ok (.aload_n 0, 1) := by decide +kernel
theorem dX11_beginSpeech_40 : decode cX11_beginSpeech 40 = .ok (.invokevirtual 409, 3) := by decide +kernel
theorem dX11_beginSpeech_43 : decode cX11_beginSpeech 43 = .ok (.goto 91, 3) := by decide +kernel
theorem dX11_beginSpeech_46 : decode cX11_beginSpeech 46 = .ok (.aload_n 0, 1) := by decide +kernel
theorem dX11_beginSpeech_47 : decode cX11_beginSpeech 47 = .ok (.getfield 194, 3) := by decide +kernel
theorem dX11_beginSpeech_50 : decode cX11_beginSpeech 50 = .ok (.ifCond .le 41, 3) := by decide +kernel
theorem dX11_beginSpeech_53 : decode cX11_beginSpeech 53 = .ok (.aload_n 0, 1) := by decide +kernel
theorem dX11_beginSpeech_54 : decode cX11_beginSpeech 54 = .ok (.iconst 1, 1) := by decide +kernel
theorem dX11_beginSpeech_55 : decode cX11_beginSpeech 55 = .ok (.putfield 108, 3) := by decide +kernel
theorem dX11_beginSpeech_58 : decode cX11_beginSpeech 58 = .ok (.aload_n 0, 1) := by decide +kernel
theorem dX11_beginSpeech_59 : decode cX11_beginSpeech 59 = .ok (.aload_n 0, 1) := by decide +kernel
theorem dX11_beginSpeech_60 : decode cX11_beginSpeech 60 = .ok (.getfield 194, 3) := by decide +kernel
theorem dX11_beginSpeech_63 : decode cX11_beginSpeech 63 = .ok (.putfield 200, 3) := by decide +kernel
theorem dX11_beginSpeech_66 : decode cX11_beginSpeech 66 = .ok (.aload_n 0, 1) := by decide +kernel
theorem dX11_beginSpeech_67 : decode cX11_beginSpeech 67 = .ok (.getfield 74, 3) := by decide +kernel
theorem dX11_beginSpeech_70 : decode cX11_beginSpeech 70 = .ok (.iconst 0, 1) := by decide +kernel
theorem dX11_beginSpeech_71 : decode cX11_beginSpeech 71 = .ok (.aload_n 0, 1) := by decide +kernel
theorem dX11_beginSpeech_72 : decode cX11_beginSpeech 72 = .ok (.getfield 83, 3) := by decide +kernel
theorem dX11_beginSpeech_75 : decode cX11_beginSpeech 75 = .ok (.iconst 0, 1) := by decide +kernel
theorem dX11_beginSpeech_76 : decode cX11_beginSpeech 76 = .ok (.aload_n 0, 1) := by decide +kernel
theorem dX11_beginSpeech_77 : decode cX11_beginSpeech 77 = .ok (.getfield 200, 3) := by decide +kernel
theorem dX11_beginSpeech_80 : decode cX11_beginSpeech 80 = .ok (.invokestatic 181, 3) := by decide +kernel
theorem dX11_beginSpeech_83 : decode cX11_beginSpeech 83 = .ok (.aload_n 0, 1) := by decide +kernel
theorem dX11_beginSpeech_84 : decode cX11_beginSpeech 84 = .ok (.iconst 0, 1) := by decide +kernel
theorem dX11_beginSpeech_85 : decode cX11_beginSpeech 85 = .ok (.putfield 194, 3) := by decide +kernel
theorem dX11_beginSpeech_88 : decode cX11_beginSpeech 88 = .ok (.goto 46, 3) := by decide +kernel
theorem dX11_beginSpeech_91 : decode cX11_beginSpeech 91 = .ok (.aload_n 0, 1) := by decide +kernel
theorem dX11_beginSpeech_92 : decode cX11_beginSpeech 92 = .ok (.getfield 178, 3) := by decide +kernel
theorem dX11_beginSpeech_95 : decode cX11_beginSpeech 95 = .ok (.ifCond .le 39, 3) := by decide +kernel
theorem dX11_beginSpeech_98 : decode cX11_beginSpeech 98 = .ok (.aload_n 0, 1) := by decide +kernel
theorem dX11_beginSpeech_99 : decode cX11_beginSpeech 99 = .ok (.iconst 0, 1) := by decide +kernel
theorem dX11_beginSpeech_100 : decode cX11_beginSpeech 100 = .ok (.putfield 108, 3) := by decide +kernel
theorem dX11_beginSpeech_103 : decode cX11_beginSpeech 103 = .ok (.aload_n 0, 1) := by decide +kernel
theorem dX11_beginSpeech_104 : decode cX11_beginSpeech 104 = .ok (.aload_n 0, 1) := by decide +kernel
theorem dX11_beginSpeech_105 : decode cX11_beginSpeech 105 = .ok (.getfield 71, 3) := by decide +kernel
theorem dX11_beginSpeech_108 : decode cX11_beginSpeech 108 = .ok (.iconst 0, 1) := by decide +kernel
theorem dX11_beginSpeech_109 : decode cX11_beginSpeech 109 = .ok (.iaload, 1) := by decide +kernel
theorem dX11_beginSpeech_110 : decode cX11_beginSpeech 110 = .ok (.putfield 200, 3) := by decide +kernel
theorem dX11_beginSpeech_113 : decode cX11_beginSpeech 113 = .ok (.aload_n 0, 1) := by decide +kernel
theorem dX11_beginSpeech_114 : decode cX11_beginSpeech 114 = .ok (.getfield 68, 3) := by decide +kernel
theorem dX11_beginSpeech_117 : decode cX11_beginSpeech 117 = .ok (.iconst 0, 1) := by decide +kernel
theorem dX11_beginSpeech_118 : decode cX11_beginSpeech 118 = .ok (.aload_n 0, 1) := by decide +kernel
theorem dX11_beginSpeech_119 : decode cX11_beginSpeech 119 = .ok (.getfield 83, 3) := by decide +kernel
theorem dX11_beginSpeech_122 : decode cX11_beginSpeech 122 = .ok (.iconst 0, 1) := by decide +kernel
theorem dX11_beginSpeech_123 : decode cX11_beginSpeech 123 = .ok (.aload_n 0, 1) := by decide +kernel
theorem dX11_beginSpeech_124 : decode cX11_beginSpeech 124 = .ok (.getfield 200, 3) := by decide +kernel
theorem dX11_beginSpeech_127 : decode cX11_beginSpeech 127 = .ok (.invokestatic 181, 3) := by decide +kernel
theorem dX11_beginSpeech_130 : decode cX11_beginSpeech 130 = .ok (.aload_n 0, 1) := by decide +kernel
theorem dX11_beginSpeech_131 : decode cX11_beginSpeech 131 = .ok (.invokevirtual 185, 3) := by decide +kernel
theorem dX11_beginSpeech_134 : decode cX11_beginSpeech 134 = .ok (.aload_n 0, 1) := by decide +kernel
theorem dX11_beginSpeech_135 : decode cX11_beginSpeech 135 = .ok (.iconst 0, 1) := by decide +kernel
theorem dX11_beginSpeech_136 : decode cX11_beginSpeech 136 = .ok (.putfield 197, 3) := by decide +kernel
theorem dX11_beginSpeech_139 : decode cX11_beginSpeech 139 = .ok (.return_, 1) := by decide +kernel
abbrev mX11_release : gM := (yX11_release, cX11_release, 2, (Option.some FieldType.int), [])
theorem caX11_release : cal mX11_release 1 := ⟨xw 1840 (by decide +kernel) rfl, xw 102 (by decide +kernel) rfl, by decide, by decide +kernel⟩
theorem cvX11_release : calV mX11_release := ⟨xw 1838 (by decide +kernel) rfl, xw 1839 (by decide +kernel) rfl⟩
abbrev mX11_chord : gM := (yX11_chord, cX11_chord, 2, (Option.some FieldType.int), [])
theorem caX11_chord : cal mX11_chord 1 := ⟨xw 1937 (by decide +kernel) rfl, xw 102 (by decide +kernel) rfl, by decide, by decide +kernel⟩
theorem cvX11_chord : calV mX11_chord := ⟨xw 1935 (by decide +kernel) rfl, xw 1936 (by decide +kernel) rfl⟩
abbrev mX11_cursor : gM := (yX11_cursor, cX11_cursor, 1, (Option.some FieldType.int), [])
theorem caX11_cursor : cal mX11_cursor 0 := ⟨xw 1941 (by decide +kernel) rfl, xw 102 (by decide +kernel) rfl, by decide, by decide +kernel⟩
theorem cvX11_cursor : calV mX11_cursor := ⟨xw 1939 (by decide +kernel) rfl, xw 1940 (by decide +kernel) rfl⟩
abbrev mX11_focus : gM := (yX11_focus, cX11_focus, 1, (Option.some FieldType.int), [])
theorem caX11_focus : cal mX11_focus 0 := ⟨xw 1945 (by decide +kernel) rfl, xw 102 (by decide +kernel) rfl, by decide, by decide +kernel⟩
theorem cvX11_focus : calV mX11_focus := ⟨xw 1943 (by decide +kernel) rfl, xw 1944 (by decide +kernel) rfl⟩
abbrev mX11_isTyping : gM := (yX11_isTyping, cX11_isTyping, 1, (Option.some FieldType.boolean), [])
theorem caX11_isTyping : cal mX11_isTyping 0 := ⟨xw 1949 (by decide +kernel) rfl, xw 102 (by decide +kernel) rfl, by decide, by decide +kernel⟩
theorem cvX11_isTyping : calV mX11_isTyping := ⟨xw 1947 (by decide +kernel) rfl, xw 1948 (by decide +kernel) rfl⟩
abbrev mX11_offset : gM := (yX11_offset, cX11_offset, 1, (Option.some FieldType.int), [])
theorem caX11_offset : cal mX11_offset 0 := ⟨xw 1953 (by decide +kernel) rfl, xw 102 (by decide +kernel) rfl, by decide, by decide +kernel⟩
theorem cvX11_offset : calV mX11_offset := ⟨xw 1951 (by decide +kernel) rfl, xw 1952 (by decide +kernel) rfl⟩
abbrev mX11_lineLength : gM := (yX11_lineLength, cX11_lineLength, 1, (Option.some FieldType.int), [])
theorem caX11_lineLength : cal mX11_lineLength 0 := ⟨xw 1957 (by decide +kernel) rfl, xw 102 (by decide +kernel) rfl, by decide, by decide +kernel⟩
theorem cvX11_lineLength : calV mX11_lineLength := ⟨xw 1955 (by decide +kernel) rfl, xw 1956 (by decide +kernel) rfl⟩
abbrev mX11_pin : gM := (yX11_pin, cX11_pin, 2, (Option.some FieldType.int), [])
theorem caX11_pin : cal mX11_pin 1 := ⟨xw 1961 (by decide +kernel) rfl, xw 102 (by decide +kernel) rfl, by decide, by decide +kernel⟩
theorem cvX11_pin : calV mX11_pin := ⟨xw 1959 (by decide +kernel) rfl, xw 1960 (by decide +kernel) rfl⟩
abbrev mX11_pinAnew : gM := (yX11_pinAnew, cX11_pinAnew, 2, (Option.some FieldType.int), [])
theorem caX11_pinAnew : cal mX11_pinAnew 1 := ⟨xw 1965 (by decide +kernel) rfl, xw 102 (by decide +kernel) rfl, by decide, by decide +kernel⟩
theorem cvX11_pinAnew : calV mX11_pinAnew := ⟨xw 1963 (by decide +kernel) rfl, xw 1964 (by decide +kernel) rfl⟩
abbrev mX11_wordsLength : gM := (yX11_wordsLength, cX11_wordsLength, 2, (Option.some FieldType.int), [])
theorem caX11_wordsLength : cal mX11_wordsLength 1 := ⟨xw 1970 (by decide +kernel) rfl, xw 102 (by decide +kernel) rfl, by decide, by decide +kernel⟩
theorem cvX11_wordsLength : calV mX11_wordsLength := ⟨xw 1968 (by decide +kernel) rfl, xw 1969 (by decide +kernel) rfl⟩
abbrev mX11_wordsAt : gM := (yX11_wordsAt, cX11_wordsAt, 3, (Option.some FieldType.int), [])
theorem caX11_wordsAt : cal mX11_wordsAt 2 := ⟨xw 1974 (by decide +kernel) rfl, xw 102 (by decide +kernel) rfl, by decide, by decide +kernel⟩
theorem cvX11_wordsAt : calV mX11_wordsAt := ⟨xw 1972 (by decide +kernel) rfl, xw 1973 (by decide +kernel) rfl⟩
abbrev mX11_beginSpeech : gM := (yX11_beginSpeech, cX11_beginSpeech, 1, (Option.none : Option FieldType), [])
theorem caX11_beginSpeech : cal mX11_beginSpeech 0 := ⟨xw 1986 (by decide +kernel) rfl, xw 102 (by decide +kernel) rfl, by decide, by decide +kernel⟩
theorem cvX11_beginSpeech : calV mX11_beginSpeech := ⟨xw 1985 (by decide +kernel) rfl, xw 84 (by decide +kernel) rfl⟩
theorem lkX11_403 : Cond.methodLink RX11 403 yX11_doChord ∈ XW := xw 1841 (by decide +kernel) rfl
theorem lkX11_406 : Cond.methodLink RX11 406 yX11_pin ∈ XW := xw 1966 (by decide +kernel) rfl
theorem lkX11_409 : Cond.methodLink RX11 409 yX11_takeAlert ∈ XW := xw 1987 (by decide +kernel) rfl
/-! BrailleDeskModel.release -/
theorem tX11_release {G : gG} (a0 : Nat) (h : hp) (a1 : Int32) (m : mm) (Q : hQ) (hF : okB (fX11_release a1 m) (pM gI Q a0 h)) : gS G mX11_release 10 0 0 [sr (some a0), si a1] (jn a0 h m) Q := by
  delta fX11_release at hF
  refine gS_at [some (sr (some a0)), some (si a1)] pl_X11 rfl (Nat.le_of_ble_eq_true rfl) rfl ?_
  refine v_aload_n (pc := 0) (i := 0) dX11_release_0 rfl rfl ?_
  refine v_iload_n (pc := 1) (i := 1) dX11_release_1 rfl rfl ?_
  refine v_iconst (pc := 2) (v := (0 : Int32)) dX11_release_2 rfl ?_
  refine v_bipush (pc := 3) (v := (8 : Int32)) dX11_release_3 rfl ?_
  refine cp_S (pc := 5) gI (as := [si a1, si (0 : Int32), si (8 : Int32)]) (st := [sr (some a0)]) (N := mX11_in) (k := 0) (n := 0) (k1 := 0) (n1 := 0) dX11_release_5 lkX11_114 caX11_in csX11_in rfl (fun Q1 hq => tX11_in a1 (0 : Int32) (8 : Int32) (jn a0 h m) Q1 hq) ⟨by decide, by decide⟩ (Nat.le_of_ble_eq_true rfl) rfl hF (fun x1 hF => ?_)
  show gV G mX11_release 10 Q 8 [some (sr (some a0)), some (si a1)] [si x1, sr (some a0)] (0) (0) (jn a0 h m)
  refine mg (X := fun q2 => gV G mX11_release 10 Q 31 [some (sr (some a0)), some (si a1)] [si q2, sr (some a0)] (0) (0) (jn a0 h m)) hF (fun _ hj3 hF => ?_) (fun q2 hF => ?_)
  · refine v_if_ne (pc := 8) 15 dX11_release_8 rfl (fun hc => ?_) (fun hc => ?_)
    · replace hF := (okB_if hF).2 hc
      refine v_aload_n (pc := 15) (i := 0) dX11_release_15 rfl rfl ?_
      refine m_getI (pc := 16) (j := 26) dX11_release_16 flX11_394 rfl rfl ?_
      refine v_iload_n (pc := 19) (i := 1) dX11_release_19 rfl rfl ?_
      refine v_ishr (pc := 20) dX11_release_20 ?_
      refine v_iconst (pc := 21) (v := (1 : Int32)) dX11_release_21 rfl ?_
      refine v_iand (pc := 22) dX11_release_22 ?_
      refine v_if_ne (pc := 23) 30 dX11_release_23 rfl (fun hc => ?_) (fun hc => ?_)
      · replace hF := (okB_if hF).2 hc
        refine v_iconst (pc := 30) (v := (0 : Int32)) dX11_release_30 rfl ?_
        exact v_lle [some (sr (some a0)), some (si a1)] ⟨rfl, rfl, trivial⟩ (hj3 (0 : Int32) (okB_some hF))
      replace hF := (okB_if hF).1 hc
      refine v_iconst (pc := 26) (v := (2 : Int32)) dX11_release_26 rfl ?_
      refine v_goto (pc := 27) 31 dX11_release_27 rfl ?_
      exact v_lle [some (sr (some a0)), some (si a1)] ⟨rfl, rfl, trivial⟩ (hj3 (2 : Int32) (okB_some hF))
    replace hF := (okB_if hF).1 hc
    refine v_iconst (pc := 11) (v := (1 : Int32)) dX11_release_11 rfl ?_
    refine v_goto (pc := 12) 31 dX11_release_12 rfl ?_
    exact v_lle [some (sr (some a0)), some (si a1)] ⟨rfl, rfl, trivial⟩ (hj3 (1 : Int32) (okB_some hF))
  refine m_putI (pc := 31) (j := 48) dX11_release_31 flX11_111 rfl rfl rfl hF (fun m4 hF => ?_)
  refine v_aload_n (pc := 34) (i := 0) dX11_release_34 rfl rfl ?_
  refine m_getI (pc := 35) (j := 48) dX11_release_35 flX11_111 rfl rfl ?_
  refine v_if_le (pc := 38) 43 dX11_release_38 rfl (fun hc => ?_) (fun hc => ?_)
  · replace hF := (okB_if hF).1 hc
    refine v_aload_n (pc := 43) (i := 0) dX11_release_43 rfl rfl ?_
    refine v_dup (pc := 44) dX11_release_44 rfl ?_
    refine m_getI (pc := 45) (j := 26) dX11_release_45 flX11_394 rfl rfl ?_
    refine v_iconst (pc := 48) (v := (1 : Int32)) dX11_release_48 rfl ?_
    refine v_iload_n (pc := 49) (i := 1) dX11_release_49 rfl rfl ?_
    refine v_ishl (pc := 50) dX11_release_50 ?_
    refine v_iconst (pc := 51) (v := (-1 : Int32)) dX11_release_51 rfl ?_
    refine v_ixor (pc := 52) dX11_release_52 ?_
    refine v_iand (pc := 53) dX11_release_53 ?_
    refine m_putI (pc := 54) (j := 26) dX11_release_54 flX11_394 rfl rfl rfl hF (fun m5 hF => ?_)
    refine v_aload_n (pc := 57) (i := 0) dX11_release_57 rfl rfl ?_
    refine m_getI (pc := 58) (j := 26) dX11_release_58 flX11_394 rfl rfl ?_
    refine mg (X := fun q6 => gV G mX11_release 10 Q 72 [some (sr (some a0)), none] [] (0) (0) (jn a0 h q6)) hF (fun _ hj7 hF => ?_) (fun q6 hF => ?_)
    · refine v_if_ne (pc := 61) 72 dX11_release_61 rfl (fun hc => ?_) (fun hc => ?_)
      · replace hF := (okB_if hF).2 hc
        exact v_lle [some (sr (some a0)), none] ⟨rfl, trivial⟩ (hj7 m5 (okB_some hF))
      replace hF := (okB_if hF).1 hc
      refine v_aload_n (pc := 64) (i := 0) dX11_release_64 rfl rfl ?_
      refine v_aload_n (pc := 65) (i := 0) dX11_release_65 rfl rfl ?_
      refine m_getI (pc := 66) (j := 27) dX11_release_66 flX11_397 rfl rfl ?_
      refine chM_V (pc := 69) gU (as := [si (m5 27 0)]) (st := []) (N := mX11_doChord) (k := 0) (n := 0) (k1 := 0) (n1 := 0) dX11_release_69 lkX11_403 caX11_doChord cvX11_doChord rfl rfl (fun Q1 hq => tX11_doChord a0 h (m5 27 0) m5 Q1 hq) ⟨by decide, by decide⟩ (Nat.le_of_ble_eq_true rfl) rfl hF (fun x8 m9 hF => ?_)
      show gV G mX11_release 10 Q 72 [some (sr (some a0)), some (si a1)] [] (0) (0) (jn a0 h m9)
      exact v_lle [some (sr (some a0)), none] ⟨rfl, trivial⟩ (hj7 m9 (okB_some hF))
    refine v_aload_n (pc := 72) (i := 0) dX11_release_72 rfl rfl ?_
    refine m_getI (pc := 73) (j := 26) dX11_release_73 flX11_394 rfl rfl ?_
    refine cp_S (pc := 76) gI (as := [si (q6 26 0)]) (st := []) (N := mX11_bits) (k := 0) (n := 0) (k1 := 0) (n1 := 0) dX11_release_76 lkX11_400 caX11_bits csX11_bits rfl (fun Q1 hq => tX11_bits (q6 26 0) (jn a0 h q6) Q1 hq) ⟨by decide, by decide⟩ (Nat.le_of_ble_eq_true rfl) rfl hF (fun x10 hF => ?_)
    show gV G mX11_release 10 Q 79 [some (sr (some a0)), none] [si x10] (0) (0) (jn a0 h q6)
    exact v_iret (pc := 79) dX11_release_79 rfl rfl (okr hF fun q => q)
  replace hF := (okB_if hF).2 hc
  refine v_iconst (pc := 41) (v := (0 : Int32)) dX11_release_41 rfl ?_
  exact v_iret (pc := 42) dX11_release_42 rfl rfl (okr hF fun q => q)
/-! BrailleDeskModel.chord -/
theorem tX11_chord {G : gG} (a0 : Nat) (h : hp) (a1 : Int32) (m : mm) (Q : hQ) (hF : okB (fX11_chord a1 m) (pM gI Q a0 h)) : gS G mX11_chord 10 0 0 [sr (some a0), si a1] (jn a0 h m) Q := by
  delta fX11_chord at hF
  refine gS_at [some (sr (some a0)), some (si a1)] pl_X11 rfl (Nat.le_of_ble_eq_true rfl) rfl ?_
  refine v_aload_n (pc := 0) (i := 0) dX11_chord_0 rfl rfl ?_
  refine v_iload_n (pc := 1) (i := 1) dX11_chord_1 rfl rfl ?_
  refine v_iconst (pc := 2) (v := (1 : Int32)) dX11_chord_2 rfl ?_
  refine v_sipush (pc := 3) (v := (511 : Int32)) dX11_chord_3 rfl ?_
  refine cp_S (pc := 6) gI (as := [si a1, si (1 : Int32), si (511 : Int32)]) (st := [sr (some a0)]) (N := mX11_in) (k := 0) (n := 0) (k1 := 0) (n1 := 0) dX11_chord_6 lkX11_114 caX11_in csX11_in rfl (fun Q1 hq => tX11_in a1 (1 : Int32) (511 : Int32) (jn a0 h m) Q1 hq) ⟨by decide, by decide⟩ (Nat.le_of_ble_eq_true rfl) rfl hF (fun x1 hF => ?_)
  show gV G mX11_chord 10 Q 9 [some (sr (some a0)), some (si a1)] [si x1, sr (some a0)] (0) (0) (jn a0 h m)
  refine mg (X := fun q2 => gV G mX11_chord 10 Q 28 [some (sr (some a0)), some (si a1)] [si q2, sr (some a0)] (0) (0) (jn a0 h m)) hF (fun _ hj3 hF => ?_) (fun q2 hF => ?_)
  · refine v_if_ne (pc := 9) 16 dX11_chord_9 rfl (fun hc => ?_) (fun hc => ?_)
    · replace hF := (okB_if hF).2 hc
      refine v_aload_n (pc := 16) (i := 0) dX11_chord_16 rfl rfl ?_
      refine m_getI (pc := 17) (j := 26) dX11_chord_17 flX11_394 rfl rfl ?_
      refine v_if_le (pc := 20) 27 dX11_chord_20 rfl (fun hc => ?_) (fun hc => ?_)
      · replace hF := (okB_if hF).1 hc
        refine v_iconst (pc := 27) (v := (0 : Int32)) dX11_chord_27 rfl ?_
        exact v_lle [some (sr (some a0)), some (si a1)] ⟨rfl, rfl, trivial⟩ (hj3 (0 : Int32) (okB_some hF))
      replace hF := (okB_if hF).2 hc
      refine v_iconst (pc := 23) (v := (2 : Int32)) dX11_chord_23 rfl ?_
      refine v_goto (pc := 24) 28 dX11_chord_24 rfl ?_
      exact v_lle [some (sr (some a0)), some (si a1)] ⟨rfl, rfl, trivial⟩ (hj3 (2 : Int32) (okB_some hF))
    replace hF := (okB_if hF).1 hc
    refine v_iconst (pc := 12) (v := (1 : Int32)) dX11_chord_12 rfl ?_
    refine v_goto (pc := 13) 28 dX11_chord_13 rfl ?_
    exact v_lle [some (sr (some a0)), some (si a1)] ⟨rfl, rfl, trivial⟩ (hj3 (1 : Int32) (okB_some hF))
  refine m_putI (pc := 28) (j := 48) dX11_chord_28 flX11_111 rfl rfl rfl hF (fun m4 hF => ?_)
  refine v_aload_n (pc := 31) (i := 0) dX11_chord_31 rfl rfl ?_
  refine m_getI (pc := 32) (j := 48) dX11_chord_32 flX11_111 rfl rfl ?_
  refine v_if_le (pc := 35) 40 dX11_chord_35 rfl (fun hc => ?_) (fun hc => ?_)
  · replace hF := (okB_if hF).1 hc
    refine v_aload_n (pc := 40) (i := 0) dX11_chord_40 rfl rfl ?_
    refine v_iload_n (pc := 41) (i := 1) dX11_chord_41 rfl rfl ?_
    refine chM_V (pc := 42) gU (as := [si a1]) (st := []) (N := mX11_doChord) (k := 0) (n := 0) (k1 := 0) (n1 := 0) dX11_chord_42 lkX11_403 caX11_doChord cvX11_doChord rfl rfl (fun Q1 hq => tX11_doChord a0 h a1 m4 Q1 hq) ⟨by decide, by decide⟩ (Nat.le_of_ble_eq_true rfl) rfl hF (fun x5 m6 hF => ?_)
    show gV G mX11_chord 10 Q 45 [some (sr (some a0)), some (si a1)] [] (0) (0) (jn a0 h m6)
    refine v_aload_n (pc := 45) (i := 0) dX11_chord_45 rfl rfl ?_
    refine m_getI (pc := 46) (j := 20) dX11_chord_46 flX11_128 rfl rfl ?_
    exact v_iret (pc := 49) dX11_chord_49 rfl rfl (okr hF fun q => q)
  replace hF := (okB_if hF).2 hc
  refine v_iconst (pc := 38) (v := (0 : Int32)) dX11_chord_38 rfl ?_
  exact v_iret (pc := 39) dX11_chord_39 rfl rfl (okr hF fun q => q)
/-! BrailleDeskModel.cursor -/
theorem tX11_cursor {G : gG} (a0 : Nat) (h : hp)  (m : mm) (Q : hQ) (hF : okB (fX11_cursor m) (pM gI Q a0 h)) : gS G mX11_cursor 0 0 0 [sr (some a0)] (jn a0 h m) Q := by
  delta fX11_cursor at hF
  refine gS_at [some (sr (some a0))] pl_X11 rfl (Nat.le_of_ble_eq_true rfl) rfl ?_
  refine v_aload_n (pc := 0) (i := 0) dX11_cursor_0 rfl rfl ?_
  refine v_iconst (pc := 1) (v := (0 : Int32)) dX11_cursor_1 rfl ?_
  refine m_putI (pc := 2) (j := 48) dX11_cursor_2 flX11_111 rfl rfl rfl hF (fun m1 hF => ?_)
  refine v_aload_n (pc := 5) (i := 0) dX11_cursor_5 rfl rfl ?_
  refine m_getI (pc := 6) (j := 20) dX11_cursor_6 flX11_128 rfl rfl ?_
  exact v_iret (pc := 9) dX11_cursor_9 rfl rfl (okr hF fun q => q)
/-! BrailleDeskModel.focus -/
theorem tX11_focus {G : gG} (a0 : Nat) (h : hp)  (m : mm) (Q : hQ) (hF : okB (fX11_focus m) (pM gI Q a0 h)) : gS G mX11_focus 0 0 0 [sr (some a0)] (jn a0 h m) Q := by
  delta fX11_focus at hF
  refine gS_at [some (sr (some a0))] pl_X11 rfl (Nat.le_of_ble_eq_true rfl) rfl ?_
  refine v_aload_n (pc := 0) (i := 0) dX11_focus_0 rfl rfl ?_
  refine v_iconst (pc := 1) (v := (0 : Int32)) dX11_focus_1 rfl ?_
  refine m_putI (pc := 2) (j := 48) dX11_focus_2 flX11_111 rfl rfl rfl hF (fun m1 hF => ?_)
  refine v_aload_n (pc := 5) (i := 0) dX11_focus_5 rfl rfl ?_
  refine m_getI (pc := 6) (j := 21) dX11_focus_6 flX11_105 rfl rfl ?_
  exact v_iret (pc := 9) dX11_focus_9 rfl rfl (okr hF fun q => q)
/-! BrailleDeskModel.isTyping -/
theorem tX11_isTyping {G : gG} (a0 : Nat) (h : hp)  (m : mm) (Q : hQ) (hF : okB (fX11_isTyping m) (pM gI Q a0 h)) : gS G mX11_isTyping 0 0 0 [sr (some a0)] (jn a0 h m) Q := by
  delta fX11_isTyping at hF
  refine gS_at [some (sr (some a0))] pl_X11 rfl (Nat.le_of_ble_eq_true rfl) rfl ?_
  refine v_aload_n (pc := 0) (i := 0) dX11_isTyping_0 rfl rfl ?_
  refine v_iconst (pc := 1) (v := (0 : Int32)) dX11_isTyping_1 rfl ?_
  refine m_putI (pc := 2) (j := 48) dX11_isTyping_2 flX11_111 rfl rfl rfl hF (fun m1 hF => ?_)
  refine v_aload_n (pc := 5) (i := 0) dX11_isTyping_5 rfl rfl ?_
  refine m_getI (pc := 6) (j := 22) dX11_isTyping_6 flX11_267 rfl rfl ?_
  exact s_zret (pc := 9) dX11_isTyping_9 rfl hF (fun hF => (okr hF fun q => q))
/-! BrailleDeskModel.offset -/
theorem tX11_offset {G : gG} (a0 : Nat) (h : hp)  (m : mm) (Q : hQ) (hF : okB (fX11_offset m) (pM gI Q a0 h)) : gS G mX11_offset 0 0 0 [sr (some a0)] (jn a0 h m) Q := by
  delta fX11_offset at hF
  refine gS_at [some (sr (some a0))] pl_X11 rfl (Nat.le_of_ble_eq_true rfl) rfl ?_
  refine v_aload_n (pc := 0) (i := 0) dX11_offset_0 rfl rfl ?_
  refine v_iconst (pc := 1) (v := (0 : Int32)) dX11_offset_1 rfl ?_
  refine m_putI (pc := 2) (j := 48) dX11_offset_2 flX11_111 rfl rfl rfl hF (fun m1 hF => ?_)
  refine v_aload_n (pc := 5) (i := 0) dX11_offset_5 rfl rfl ?_
  refine m_getI (pc := 6) (j := 25) dX11_offset_6 flX11_274 rfl rfl ?_
  exact v_iret (pc := 9) dX11_offset_9 rfl rfl (okr hF fun q => q)
/-! BrailleDeskModel.lineLength -/
theorem tX11_lineLength {G : gG} (a0 : Nat) (h : hp)  (m : mm) (Q : hQ) (hF : okB (fX11_lineLength m) (pM gI Q a0 h)) : gS G mX11_lineLength 5 0 0 [sr (some a0)] (jn a0 h m) Q := by
  delta fX11_lineLength at hF
  refine gS_at [some (sr (some a0))] pl_X11 rfl (Nat.le_of_ble_eq_true rfl) rfl ?_
  refine v_aload_n (pc := 0) (i := 0) dX11_lineLength_0 rfl rfl ?_
  refine v_iconst (pc := 1) (v := (0 : Int32)) dX11_lineLength_1 rfl ?_
  refine m_putI (pc := 2) (j := 48) dX11_lineLength_2 flX11_111 rfl rfl rfl hF (fun m1 hF => ?_)
  refine v_aload_n (pc := 5) (i := 0) dX11_lineLength_5 rfl rfl ?_
  refine chM_V (pc := 6) gU (as := []) (st := []) (N := mX11_layLine) (k := 0) (n := 0) (k1 := 0) (n1 := 0) dX11_lineLength_6 lkX11_271 caX11_layLine cvX11_layLine rfl rfl (fun Q1 hq => tX11_layLine a0 h m1 Q1 hq) ⟨by decide, by decide⟩ (Nat.le_of_ble_eq_true rfl) rfl hF (fun x2 m3 hF => ?_)
  show gV G mX11_lineLength 5 Q 9 [some (sr (some a0))] [] (0) (0) (jn a0 h m3)
  refine v_aload_n (pc := 9) (i := 0) dX11_lineLength_9 rfl rfl ?_
  refine m_getI (pc := 10) (j := 53) dX11_lineLength_10 flX11_236 rfl rfl ?_
  exact v_iret (pc := 13) dX11_lineLength_13 rfl rfl (okr hF fun q => q)
/-! BrailleDeskModel.pin -/
theorem tX11_pin {G : gG} (a0 : Nat) (h : hp) (a1 : Int32) (m : mm) (Q : hQ) (hF : okB (fX11_pin a1 m) (pM gI Q a0 h)) : gS G mX11_pin 5 0 0 [sr (some a0), si a1] (jn a0 h m) Q := by
  delta fX11_pin at hF
  refine gS_at [some (sr (some a0)), some (si a1)] pl_X11 rfl (Nat.le_of_ble_eq_true rfl) rfl ?_
  refine v_aload_n (pc := 0) (i := 0) dX11_pin_0 rfl rfl ?_
  refine v_iload_n (pc := 1) (i := 1) dX11_pin_1 rfl rfl ?_
  refine v_iconst (pc := 2) (v := (0 : Int32)) dX11_pin_2 rfl ?_
  refine v_bipush (pc := 3) (v := (9 : Int32)) dX11_pin_3 rfl ?_
  refine cp_S (pc := 5) gI (as := [si a1, si (0 : Int32), si (9 : Int32)]) (st := [sr (some a0)]) (N := mX11_in) (k := 0) (n := 0) (k1 := 0) (n1 := 0) dX11_pin_5 lkX11_114 caX11_in csX11_in rfl (fun Q1 hq => tX11_in a1 (0 : Int32) (9 : Int32) (jn a0 h m) Q1 hq) ⟨by decide, by decide⟩ (Nat.le_of_ble_eq_true rfl) rfl hF (fun x1 hF => ?_)
  show gV G mX11_pin 5 Q 8 [some (sr (some a0)), some (si a1)] [si x1, sr (some a0)] (0) (0) (jn a0 h m)
  refine mg (X := fun q2 => gV G mX11_pin 5 Q 16 [some (sr (some a0)), some (si a1)] [si q2, sr (some a0)] (0) (0) (jn a0 h m)) hF (fun _ hj3 hF => ?_) (fun q2 hF => ?_)
  · refine v_if_eq (pc := 8) 15 dX11_pin_8 rfl (fun hc => ?_) (fun hc => ?_)
    · replace hF := (okB_if hF).1 hc
      refine v_iconst (pc := 15) (v := (1 : Int32)) dX11_pin_15 rfl ?_
      exact v_lle [some (sr (some a0)), some (si a1)] ⟨rfl, rfl, trivial⟩ (hj3 (1 : Int32) (okB_some hF))
    replace hF := (okB_if hF).2 hc
    refine v_iconst (pc := 11) (v := (0 : Int32)) dX11_pin_11 rfl ?_
    refine v_goto (pc := 12) 16 dX11_pin_12 rfl ?_
    exact v_lle [some (sr (some a0)), some (si a1)] ⟨rfl, rfl, trivial⟩ (hj3 (0 : Int32) (okB_some hF))
  refine m_putI (pc := 16) (j := 48) dX11_pin_16 flX11_111 rfl rfl rfl hF (fun m4 hF => ?_)
  refine v_aload_n (pc := 19) (i := 0) dX11_pin_19 rfl rfl ?_
  refine chM_V (pc := 20) gU (as := []) (st := []) (N := mX11_layLine) (k := 0) (n := 0) (k1 := 0) (n1 := 0) dX11_pin_20 lkX11_271 caX11_layLine cvX11_layLine rfl rfl (fun Q1 hq => tX11_layLine a0 h m4 Q1 hq) ⟨by decide, by decide⟩ (Nat.le_of_ble_eq_true rfl) rfl hF (fun x5 m6 hF => ?_)
  show gV G mX11_pin 5 Q 23 [some (sr (some a0)), some (si a1)] [] (0) (0) (jn a0 h m6)
  refine v_aload_n (pc := 23) (i := 0) dX11_pin_23 rfl rfl ?_
  refine m_getI (pc := 24) (j := 48) dX11_pin_24 flX11_111 rfl rfl ?_
  refine v_if_ne (pc := 27) 57 dX11_pin_27 rfl (fun hc => ?_) (fun hc => ?_)
  · replace hF := (okB_if hF).2 hc
    refine v_iconst (pc := 57) (v := (0 : Int32)) dX11_pin_57 rfl ?_
    exact v_iret (pc := 58) dX11_pin_58 rfl rfl (okr hF fun q => q)
  replace hF := (okB_if hF).1 hc
  refine v_aload_n (pc := 30) (i := 0) dX11_pin_30 rfl rfl ?_
  refine m_getI (pc := 31) (j := 25) dX11_pin_31 flX11_274 rfl rfl ?_
  refine v_iload_n (pc := 34) (i := 1) dX11_pin_34 rfl rfl ?_
  refine v_iadd (pc := 35) dX11_pin_35 ?_
  refine v_aload_n (pc := 36) (i := 0) dX11_pin_36 rfl rfl ?_
  refine m_getI (pc := 37) (j := 53) dX11_pin_37 flX11_236 rfl rfl ?_
  refine v_icmp_ge (pc := 40) 57 dX11_pin_40 rfl (fun hc => ?_) (fun hc => ?_)
  · replace hF := (okB_if hF).1 hc
    refine v_iconst (pc := 57) (v := (0 : Int32)) dX11_pin_57 rfl ?_
    exact v_iret (pc := 58) dX11_pin_58 rfl rfl (okr hF fun q => q)
  replace hF := (okB_if hF).2 hc
  refine v_aload_n (pc := 43) (i := 0) dX11_pin_43 rfl rfl ?_
  refine m_getA (pc := 44) (j := 52) dX11_pin_44 flX11_98 rfl (by decide) ?_
  refine v_aload_n (pc := 47) (i := 0) dX11_pin_47 rfl rfl ?_
  refine m_getI (pc := 48) (j := 25) dX11_pin_48 flX11_274 rfl rfl ?_
  refine v_iload_n (pc := 51) (i := 1) dX11_pin_51 rfl rfl ?_
  refine v_iadd (pc := 52) dX11_pin_52 ?_
  refine m_iald (pc := 53) (j := 52) dX11_pin_53 hF (fun x7 hF => ?_)
  refine v_goto (pc := 54) 58 dX11_pin_54 rfl ?_
  exact v_iret (pc := 58) dX11_pin_58 rfl rfl (okr hF fun q => q)
/-! BrailleDeskModel.pinAnew -/
theorem tX11_pinAnew {G : gG} (a0 : Nat) (h : hp) (a1 : Int32) (m : mm) (Q : hQ) (hF : okB (fX11_pinAnew a1 m) (pM gI Q a0 h)) : gS G mX11_pinAnew 6 0 0 [sr (some a0), si a1] (jn a0 h m) Q := by
  delta fX11_pinAnew at hF
  refine gS_at [some (sr (some a0)), some (si a1)] pl_X11 rfl (Nat.le_of_ble_eq_true rfl) rfl ?_
  refine v_aload_n (pc := 0) (i := 0) dX11_pinAnew_0 rfl rfl ?_
  refine v_iload_n (pc := 1) (i := 1) dX11_pinAnew_1 rfl rfl ?_
  refine chM_V (pc := 2) gI (as := [si a1]) (st := []) (N := mX11_pin) (k := 0) (n := 0) (k1 := 0) (n1 := 0) dX11_pinAnew_2 lkX11_406 caX11_pin cvX11_pin rfl rfl (fun Q1 hq => tX11_pin a0 h a1 m Q1 hq) ⟨by decide, by decide⟩ (Nat.le_of_ble_eq_true rfl) rfl hF (fun x1 m2 hF => ?_)
  show gV G mX11_pinAnew 6 Q 5 [some (sr (some a0)), some (si a1)] [si x1] (0) (0) (jn a0 h m2)
  exact v_iret (pc := 5) dX11_pinAnew_5 rfl rfl (okr hF fun q => q)
/-! BrailleDeskModel.wordsLength -/
theorem tX11_wordsLength {G : gG} (a0 : Nat) (h : hp) (a1 : Int32) (m : mm) (Q : hQ) (hF : okB (fX11_wordsLength a1 m) (pM gI Q a0 h)) : gS G mX11_wordsLength 5 0 0 [sr (some a0), si a1] (jn a0 h m) Q := by
  delta fX11_wordsLength at hF
  refine gS_at [some (sr (some a0)), some (si a1)] pl_X11 rfl (Nat.le_of_ble_eq_true rfl) rfl ?_
  refine v_aload_n (pc := 0) (i := 0) dX11_wordsLength_0 rfl rfl ?_
  refine v_aload_n (pc := 1) (i := 0) dX11_wordsLength_1 rfl rfl ?_
  refine v_iload_n (pc := 2) (i := 1) dX11_wordsLength_2 rfl rfl ?_
  refine cpM_V (pc := 3) gI (as := [si a1]) (st := [sr (some a0)]) (N := mX11_isElement) (k := 0) (n := 0) (k1 := 0) (n1 := 0) dX11_wordsLength_3 lkX11_118 caX11_isElement cvX11_isElement rfl rfl (fun Q1 hq => tX11_isElement a0 h a1 m Q1 hq) ⟨by decide, by decide⟩ (Nat.le_of_ble_eq_true rfl) rfl hF (fun x1 hF => ?_)
  show gV G mX11_wordsLength 5 Q 6 [some (sr (some a0)), some (si a1)] [si x1, sr (some a0)] (0) (0) (jn a0 h m)
  refine mg (X := fun q2 => gV G mX11_wordsLength 5 Q 26 [some (sr (some a0)), some (si a1)] [si q2, sr (some a0)] (0) (0) (jn a0 h m)) hF (fun _ hj3 hF => ?_) (fun q2 hF => ?_)
  · refine v_if_ne (pc := 6) 13 dX11_wordsLength_6 rfl (fun hc => ?_) (fun hc => ?_)
    · replace hF := (okB_if hF).2 hc
      refine v_aload_n (pc := 13) (i := 0) dX11_wordsLength_13 rfl rfl ?_
      refine v_iload_n (pc := 14) (i := 1) dX11_wordsLength_14 rfl rfl ?_
      refine cpM_V (pc := 15) gI (as := [si a1]) (st := [sr (some a0)]) (N := mX11_shows) (k := 0) (n := 0) (k1 := 0) (n1 := 0) dX11_wordsLength_15 lkX11_224 caX11_shows cvX11_shows rfl rfl (fun Q1 hq => tX11_shows a0 h a1 m Q1 hq) ⟨by decide, by decide⟩ (Nat.le_of_ble_eq_true rfl) rfl hF (fun x4 hF => ?_)
      show gV G mX11_wordsLength 5 Q 18 [some (sr (some a0)), some (si a1)] [si x4, sr (some a0)] (0) (0) (jn a0 h m)
      refine v_if_ne (pc := 18) 25 dX11_wordsLength_18 rfl (fun hc => ?_) (fun hc => ?_)
      · replace hF := (okB_if hF).2 hc
        refine v_iconst (pc := 25) (v := (0 : Int32)) dX11_wordsLength_25 rfl ?_
        exact v_lle [some (sr (some a0)), some (si a1)] ⟨rfl, rfl, trivial⟩ (hj3 (0 : Int32) (okB_some hF))
      replace hF := (okB_if hF).1 hc
      refine v_iconst (pc := 21) (v := (2 : Int32)) dX11_wordsLength_21 rfl ?_
      refine v_goto (pc := 22) 26 dX11_wordsLength_22 rfl ?_
      exact v_lle [some (sr (some a0)), some (si a1)] ⟨rfl, rfl, trivial⟩ (hj3 (2 : Int32) (okB_some hF))
    replace hF := (okB_if hF).1 hc
    refine v_iconst (pc := 9) (v := (1 : Int32)) dX11_wordsLength_9 rfl ?_
    refine v_goto (pc := 10) 26 dX11_wordsLength_10 rfl ?_
    exact v_lle [some (sr (some a0)), some (si a1)] ⟨rfl, rfl, trivial⟩ (hj3 (1 : Int32) (okB_some hF))
  refine m_putI (pc := 26) (j := 48) dX11_wordsLength_26 flX11_111 rfl rfl rfl hF (fun m5 hF => ?_)
  refine v_aload_n (pc := 29) (i := 0) dX11_wordsLength_29 rfl rfl ?_
  refine m_getI (pc := 30) (j := 48) dX11_wordsLength_30 flX11_111 rfl rfl ?_
  refine v_if_le (pc := 33) 38 dX11_wordsLength_33 rfl (fun hc => ?_) (fun hc => ?_)
  · replace hF := (okB_if hF).1 hc
    refine v_aload_n (pc := 38) (i := 0) dX11_wordsLength_38 rfl rfl ?_
    refine v_iconst (pc := 39) (v := (0 : Int32)) dX11_wordsLength_39 rfl ?_
    refine m_putI (pc := 40) (j := 29) dX11_wordsLength_40 flX11_143 rfl rfl rfl hF (fun m6 hF => ?_)
    refine v_aload_n (pc := 43) (i := 0) dX11_wordsLength_43 rfl rfl ?_
    refine v_iload_n (pc := 44) (i := 1) dX11_wordsLength_44 rfl rfl ?_
    refine chM_V (pc := 45) gU (as := [si a1]) (st := []) (N := mX11_partWords) (k := 0) (n := 0) (k1 := 0) (n1 := 0) dX11_wordsLength_45 lkX11_227 caX11_partWords cvX11_partWords rfl rfl (fun Q1 hq => tX11_partWords a0 h a1 m6 Q1 hq) ⟨by decide, by decide⟩ (Nat.le_of_ble_eq_true rfl) rfl hF (fun x7 m8 hF => ?_)
    show gV G mX11_wordsLength 5 Q 48 [some (sr (some a0)), some (si a1)] [] (0) (0) (jn a0 h m8)
    refine v_aload_n (pc := 48) (i := 0) dX11_wordsLength_48 rfl rfl ?_
    refine m_getI (pc := 49) (j := 29) dX11_wordsLength_49 flX11_143 rfl rfl ?_
    exact v_iret (pc := 52) dX11_wordsLength_52 rfl rfl (okr hF fun q => q)
  replace hF := (okB_if hF).2 hc
  refine v_iconst (pc := 36) (v := (0 : Int32)) dX11_wordsLength_36 rfl ?_
  exact v_iret (pc := 37) dX11_wordsLength_37 rfl rfl (okr hF fun q => q)
/-! BrailleDeskModel.wordsAt -/
theorem tX11_wordsAt {G : gG} (a0 : Nat) (h : hp) (a1 : Int32) (a2 : Int32) (m : mm) (Q : hQ) (hF : okB (fX11_wordsAt a1 a2 m) (pM gI Q a0 h)) : gS G mX11_wordsAt 5 0 0 [sr (some a0), si a1, si a2] (jn a0 h m) Q := by
  delta fX11_wordsAt at hF
  refine gS_at [some (sr (some a0)), some (si a1), some (si a2)] pl_X11 rfl (Nat.le_of_ble_eq_true rfl) rfl ?_
  refine v_aload_n (pc := 0) (i := 0) dX11_wordsAt_0 rfl rfl ?_
  refine v_aload_n (pc := 1) (i := 0) dX11_wordsAt_1 rfl rfl ?_
  refine v_iload_n (pc := 2) (i := 1) dX11_wordsAt_2 rfl rfl ?_
  refine cpM_V (pc := 3) gI (as := [si a1]) (st := [sr (some a0)]) (N := mX11_isElement) (k := 0) (n := 0) (k1 := 0) (n1 := 0) dX11_wordsAt_3 lkX11_118 caX11_isElement cvX11_isElement rfl rfl (fun Q1 hq => tX11_isElement a0 h a1 m Q1 hq) ⟨by decide, by decide⟩ (Nat.le_of_ble_eq_true rfl) rfl hF (fun x1 hF => ?_)
  show gV G mX11_wordsAt 5 Q 6 [some (sr (some a0)), some (si a1), some (si a2)] [si x1, sr (some a0)] (0) (0) (jn a0 h m)
  refine mg (X := fun q2 => gV G mX11_wordsAt 5 Q 26 [some (sr (some a0)), some (si a1), some (si a2)] [si q2, sr (some a0)] (0) (0) (jn a0 h m)) hF (fun _ hj3 hF => ?_) (fun q2 hF => ?_)
  · refine v_if_ne (pc := 6) 13 dX11_wordsAt_6 rfl (fun hc => ?_) (fun hc => ?_)
    · replace hF := (okB_if hF).2 hc
      refine v_aload_n (pc := 13) (i := 0) dX11_wordsAt_13 rfl rfl ?_
      refine v_iload_n (pc := 14) (i := 1) dX11_wordsAt_14 rfl rfl ?_
      refine cpM_V (pc := 15) gI (as := [si a1]) (st := [sr (some a0)]) (N := mX11_shows) (k := 0) (n := 0) (k1 := 0) (n1 := 0) dX11_wordsAt_15 lkX11_224 caX11_shows cvX11_shows rfl rfl (fun Q1 hq => tX11_shows a0 h a1 m Q1 hq) ⟨by decide, by decide⟩ (Nat.le_of_ble_eq_true rfl) rfl hF (fun x4 hF => ?_)
      show gV G mX11_wordsAt 5 Q 18 [some (sr (some a0)), some (si a1), some (si a2)] [si x4, sr (some a0)] (0) (0) (jn a0 h m)
      refine v_if_ne (pc := 18) 25 dX11_wordsAt_18 rfl (fun hc => ?_) (fun hc => ?_)
      · replace hF := (okB_if hF).2 hc
        refine v_iconst (pc := 25) (v := (0 : Int32)) dX11_wordsAt_25 rfl ?_
        exact v_lle [some (sr (some a0)), some (si a1), some (si a2)] ⟨rfl, rfl, rfl, trivial⟩ (hj3 (0 : Int32) (okB_some hF))
      replace hF := (okB_if hF).1 hc
      refine v_iconst (pc := 21) (v := (1 : Int32)) dX11_wordsAt_21 rfl ?_
      refine v_goto (pc := 22) 26 dX11_wordsAt_22 rfl ?_
      exact v_lle [some (sr (some a0)), some (si a1), some (si a2)] ⟨rfl, rfl, rfl, trivial⟩ (hj3 (1 : Int32) (okB_some hF))
    replace hF := (okB_if hF).1 hc
    refine v_iconst (pc := 9) (v := (2 : Int32)) dX11_wordsAt_9 rfl ?_
    refine v_goto (pc := 10) 26 dX11_wordsAt_10 rfl ?_
    exact v_lle [some (sr (some a0)), some (si a1), some (si a2)] ⟨rfl, rfl, rfl, trivial⟩ (hj3 (2 : Int32) (okB_some hF))
  refine m_putI (pc := 26) (j := 48) dX11_wordsAt_26 flX11_111 rfl rfl rfl hF (fun m5 hF => ?_)
  refine v_aload_n (pc := 29) (i := 0) dX11_wordsAt_29 rfl rfl ?_
  refine m_getI (pc := 30) (j := 48) dX11_wordsAt_30 flX11_111 rfl rfl ?_
  refine v_if_le (pc := 33) 38 dX11_wordsAt_33 rfl (fun hc => ?_) (fun hc => ?_)
  · replace hF := (okB_if hF).1 hc
    refine v_aload_n (pc := 38) (i := 0) dX11_wordsAt_38 rfl rfl ?_
    refine v_iconst (pc := 39) (v := (0 : Int32)) dX11_wordsAt_39 rfl ?_
    refine m_putI (pc := 40) (j := 29) dX11_wordsAt_40 flX11_143 rfl rfl rfl hF (fun m6 hF => ?_)
    refine v_aload_n (pc := 43) (i := 0) dX11_wordsAt_43 rfl rfl ?_
    refine v_iload_n (pc := 44) (i := 1) dX11_wordsAt_44 rfl rfl ?_
    refine chM_V (pc := 45) gU (as := [si a1]) (st := []) (N := mX11_partWords) (k := 0) (n := 0) (k1 := 0) (n1 := 0) dX11_wordsAt_45 lkX11_227 caX11_partWords cvX11_partWords rfl rfl (fun Q1 hq => tX11_partWords a0 h a1 m6 Q1 hq) ⟨by decide, by decide⟩ (Nat.le_of_ble_eq_true rfl) rfl hF (fun x7 m8 hF => ?_)
    show gV G mX11_wordsAt 5 Q 48 [some (sr (some a0)), some (si a1), some (si a2)] [] (0) (0) (jn a0 h m8)
    refine v_aload_n (pc := 48) (i := 0) dX11_wordsAt_48 rfl rfl ?_
    refine v_iload_n (pc := 49) (i := 2) dX11_wordsAt_49 rfl rfl ?_
    refine v_iconst (pc := 50) (v := (0 : Int32)) dX11_wordsAt_50 rfl ?_
    refine v_aload_n (pc := 51) (i := 0) dX11_wordsAt_51 rfl rfl ?_
    refine m_getI (pc := 52) (j := 29) dX11_wordsAt_52 flX11_143 rfl rfl ?_
    refine v_iconst (pc := 55) (v := (1 : Int32)) dX11_wordsAt_55 rfl ?_
    refine v_isub (pc := 56) dX11_wordsAt_56 ?_
    refine cp_S (pc := 57) gI (as := [si a2, si (0 : Int32), si ((m8 29 0) - (1 : Int32))]) (st := [sr (some a0)]) (N := mX11_in) (k := 0) (n := 0) (k1 := 0) (n1 := 0) dX11_wordsAt_57 lkX11_114 caX11_in csX11_in rfl (fun Q1 hq => tX11_in a2 (0 : Int32) ((m8 29 0) - (1 : Int32)) (jn a0 h m8) Q1 hq) ⟨by decide, by decide⟩ (Nat.le_of_ble_eq_true rfl) rfl hF (fun x9 hF => ?_)
    show gV G mX11_wordsAt 5 Q 60 [some (sr (some a0)), some (si a1), some (si a2)] [si x9, sr (some a0)] (0) (0) (jn a0 h m8)
    refine mg (X := fun q10 => gV G mX11_wordsAt 5 Q 68 [some (sr (some a0)), none, some (si a2)] [si q10, sr (some a0)] (0) (0) (jn a0 h m8)) hF (fun _ hj11 hF => ?_) (fun q10 hF => ?_)
    · refine v_if_eq (pc := 60) 67 dX11_wordsAt_60 rfl (fun hc => ?_) (fun hc => ?_)
      · replace hF := (okB_if hF).1 hc
        refine v_iconst (pc := 67) (v := (2 : Int32)) dX11_wordsAt_67 rfl ?_
        exact v_lle [some (sr (some a0)), none, some (si a2)] ⟨rfl, rfl, trivial⟩ (hj11 (2 : Int32) (okB_some hF))
      replace hF := (okB_if hF).2 hc
      refine v_iconst (pc := 63) (v := (0 : Int32)) dX11_wordsAt_63 rfl ?_
      refine v_goto (pc := 64) 68 dX11_wordsAt_64 rfl ?_
      exact v_lle [some (sr (some a0)), none, some (si a2)] ⟨rfl, rfl, trivial⟩ (hj11 (0 : Int32) (okB_some hF))
    refine m_putI (pc := 68) (j := 48) dX11_wordsAt_68 flX11_111 rfl rfl rfl hF (fun m12 hF => ?_)
    refine v_aload_n (pc := 71) (i := 0) dX11_wordsAt_71 rfl rfl ?_
    refine m_getI (pc := 72) (j := 48) dX11_wordsAt_72 flX11_111 rfl rfl ?_
    refine v_if_ne (pc := 75) 87 dX11_wordsAt_75 rfl (fun hc => ?_) (fun hc => ?_)
    · replace hF := (okB_if hF).2 hc
      refine v_iconst (pc := 87) (v := (0 : Int32)) dX11_wordsAt_87 rfl ?_
      exact v_iret (pc := 88) dX11_wordsAt_88 rfl rfl (okr hF fun q => q)
    replace hF := (okB_if hF).1 hc
    refine v_aload_n (pc := 78) (i := 0) dX11_wordsAt_78 rfl rfl ?_
    refine m_getA (pc := 79) (j := 28) dX11_wordsAt_79 flX11_65 rfl (by decide) ?_
    refine v_iload_n (pc := 82) (i := 2) dX11_wordsAt_82 rfl rfl ?_
    refine m_iald (pc := 83) (j := 28) dX11_wordsAt_83 hF (fun x13 hF => ?_)
    refine v_goto (pc := 84) 88 dX11_wordsAt_84 rfl ?_
    exact v_iret (pc := 88) dX11_wordsAt_88 rfl rfl (okr hF fun q => q)
  replace hF := (okB_if hF).2 hc
  refine v_iconst (pc := 36) (v := (0 : Int32)) dX11_wordsAt_36 rfl ?_
  exact v_iret (pc := 37) dX11_wordsAt_37 rfl rfl (okr hF fun q => q)
/-! BrailleDeskModel.beginSpeech -/
theorem tX11_beginSpeech {G : gG} (a0 : Nat) (h : hp)  (m : mm) (Q : hQ) (hF : okB (fX11_beginSpeech m) (pM gU Q a0 h)) : gS G mX11_beginSpeech 2 0 0 [sr (some a0)] (jn a0 h m) Q := by
  delta fX11_beginSpeech at hF
  refine gS_at [some (sr (some a0))] pl_X11 rfl (Nat.le_of_ble_eq_true rfl) rfl ?_
  refine v_aload_n (pc := 0) (i := 0) dX11_beginSpeech_0 rfl rfl ?_
  refine m_getI (pc := 1) (j := 37) dX11_beginSpeech_1 flX11_191 rfl rfl ?_
  refine mg (X := fun q1 => gV G mX11_beginSpeech 2 Q 134 [some (sr (some a0))] [] (0) (0) (jn a0 h q1)) hF (fun _ hj2 hF => ?_) (fun q1 hF => ?_)
  · refine v_if_le (pc := 4) 46 dX11_beginSpeech_4 rfl (fun hc => ?_) (fun hc => ?_)
    · replace hF := (okB_if hF).1 hc
      refine v_aload_n (pc := 46) (i := 0) dX11_beginSpeech_46 rfl rfl ?_
      refine m_getI (pc := 47) (j := 34) dX11_beginSpeech_47 flX11_194 rfl rfl ?_
      refine v_if_le (pc := 50) 91 dX11_beginSpeech_50 rfl (fun hc => ?_) (fun hc => ?_)
      · replace hF := (okB_if hF).1 hc
        refine v_aload_n (pc := 91) (i := 0) dX11_beginSpeech_91 rfl rfl ?_
        refine m_getI (pc := 92) (j := 32) dX11_beginSpeech_92 flX11_178 rfl rfl ?_
        refine v_if_le (pc := 95) 134 dX11_beginSpeech_95 rfl (fun hc => ?_) (fun hc => ?_)
        · replace hF := (okB_if hF).1 hc
          exact v_lle [some (sr (some a0))] ⟨rfl, trivial⟩ (hj2 m (okB_some hF))
        replace hF := (okB_if hF).2 hc
        refine v_aload_n (pc := 98) (i := 0) dX11_beginSpeech_98 rfl rfl ?_
        refine v_iconst (pc := 99) (v := (0 : Int32)) dX11_beginSpeech_99 rfl ?_
        refine m_putI (pc := 100) (j := 38) dX11_beginSpeech_100 flX11_108 rfl rfl rfl hF (fun m3 hF => ?_)
        refine v_aload_n (pc := 103) (i := 0) dX11_beginSpeech_103 rfl rfl ?_
        refine v_aload_n (pc := 104) (i := 0) dX11_beginSpeech_104 rfl rfl ?_
        refine m_getA (pc := 105) (j := 31) dX11_beginSpeech_105 flX11_71 rfl (by decide) ?_
        refine v_iconst (pc := 108) (v := (0 : Int32)) dX11_beginSpeech_108 rfl ?_
        refine m_iald (pc := 109) (j := 31) dX11_beginSpeech_109 hF (fun x4 hF => ?_)
        refine m_putI (pc := 110) (j := 40) dX11_beginSpeech_110 flX11_200 rfl rfl rfl hF (fun m5 hF => ?_)
        refine v_aload_n (pc := 113) (i := 0) dX11_beginSpeech_113 rfl rfl ?_
        refine m_getA (pc := 114) (j := 30) dX11_beginSpeech_114 flX11_68 rfl (by decide) ?_
        refine v_iconst (pc := 117) (v := (0 : Int32)) dX11_beginSpeech_117 rfl ?_
        refine v_aload_n (pc := 118) (i := 0) dX11_beginSpeech_118 rfl rfl ?_
        refine m_getA (pc := 119) (j := 39) dX11_beginSpeech_119 flX11_83 rfl (by decide) ?_
        refine v_iconst (pc := 122) (v := (0 : Int32)) dX11_beginSpeech_122 rfl ?_
        refine v_aload_n (pc := 123) (i := 0) dX11_beginSpeech_123 rfl rfl ?_
        refine m_getI (pc := 124) (j := 40) dX11_beginSpeech_124 flX11_200 rfl rfl ?_
        refine chM_S (a0 := a0) (h := h) (pc := 127) gU (as := [sr (some (a0 + mo 30)), si (0 : Int32), sr (some (a0 + mo 39)), si (0 : Int32), si (m5 40 0)]) (st := []) (N := mX11_copy) (k := 0) (n := 0) (k1 := 0) (n1 := 0) dX11_beginSpeech_127 lkX11_181 caX11_copy csX11_copy rfl (fun Q1 hq => tX11_copy a0 h 30 (0 : Int32) 39 (0 : Int32) (m5 40 0) m5 Q1 hq) ⟨by decide, by decide⟩ (Nat.le_of_ble_eq_true rfl) rfl hF (fun x6 m7 hF => ?_)
        show gV G mX11_beginSpeech 2 Q 130 [some (sr (some a0))] [] (0) (0) (jn a0 h m7)
        refine v_aload_n (pc := 130) (i := 0) dX11_beginSpeech_130 rfl rfl ?_
        refine chM_V (pc := 131) gU (as := []) (st := []) (N := mX11_takeNews) (k := 0) (n := 0) (k1 := 0) (n1 := 0) dX11_beginSpeech_131 lkX11_185 caX11_takeNews cvX11_takeNews rfl rfl (fun Q1 hq => tX11_takeNews a0 h m7 Q1 hq) ⟨by decide, by decide⟩ (Nat.le_of_ble_eq_true rfl) rfl hF (fun x8 m9 hF => ?_)
        show gV G mX11_beginSpeech 2 Q 134 [some (sr (some a0))] [] (0) (0) (jn a0 h m9)
        exact v_lle [some (sr (some a0))] ⟨rfl, trivial⟩ (hj2 m9 (okB_some hF))
      replace hF := (okB_if hF).2 hc
      refine v_aload_n (pc := 53) (i := 0) dX11_beginSpeech_53 rfl rfl ?_
      refine v_iconst (pc := 54) (v := (1 : Int32)) dX11_beginSpeech_54 rfl ?_
      refine m_putI (pc := 55) (j := 38) dX11_beginSpeech_55 flX11_108 rfl rfl rfl hF (fun m10 hF => ?_)
      refine v_aload_n (pc := 58) (i := 0) dX11_beginSpeech_58 rfl rfl ?_
      refine v_aload_n (pc := 59) (i := 0) dX11_beginSpeech_59 rfl rfl ?_
      refine m_getI (pc := 60) (j := 34) dX11_beginSpeech_60 flX11_194 rfl rfl ?_
      refine m_putI (pc := 63) (j := 40) dX11_beginSpeech_63 flX11_200 rfl rfl rfl hF (fun m11 hF => ?_)
      refine v_aload_n (pc := 66) (i := 0) dX11_beginSpeech_66 rfl rfl ?_
      refine m_getA (pc := 67) (j := 33) dX11_beginSpeech_67 flX11_74 rfl (by decide) ?_
      refine v_iconst (pc := 70) (v := (0 : Int32)) dX11_beginSpeech_70 rfl ?_
      refine v_aload_n (pc := 71) (i := 0) dX11_beginSpeech_71 rfl rfl ?_
      refine m_getA (pc := 72) (j := 39) dX11_beginSpeech_72 flX11_83 rfl (by decide) ?_
      refine v_iconst (pc := 75) (v := (0 : Int32)) dX11_beginSpeech_75 rfl ?_
      refine v_aload_n (pc := 76) (i := 0) dX11_beginSpeech_76 rfl rfl ?_
      refine m_getI (pc := 77) (j := 40) dX11_beginSpeech_77 flX11_200 rfl rfl ?_
      refine chM_S (a0 := a0) (h := h) (pc := 80) gU (as := [sr (some (a0 + mo 33)), si (0 : Int32), sr (some (a0 + mo 39)), si (0 : Int32), si (m11 40 0)]) (st := []) (N := mX11_copy) (k := 0) (n := 0) (k1 := 0) (n1 := 0) dX11_beginSpeech_80 lkX11_181 caX11_copy csX11_copy rfl (fun Q1 hq => tX11_copy a0 h 33 (0 : Int32) 39 (0 : Int32) (m11 40 0) m11 Q1 hq) ⟨by decide, by decide⟩ (Nat.le_of_ble_eq_true rfl) rfl hF (fun x12 m13 hF => ?_)
      show gV G mX11_beginSpeech 2 Q 83 [some (sr (some a0))] [] (0) (0) (jn a0 h m13)
      refine v_aload_n (pc := 83) (i := 0) dX11_beginSpeech_83 rfl rfl ?_
      refine v_iconst (pc := 84) (v := (0 : Int32)) dX11_beginSpeech_84 rfl ?_
      refine m_putI (pc := 85) (j := 34) dX11_beginSpeech_85 flX11_194 rfl rfl rfl hF (fun m14 hF => ?_)
      refine v_goto (pc := 88) 134 dX11_beginSpeech_88 rfl ?_
      exact v_lle [some (sr (some a0))] ⟨rfl, trivial⟩ (hj2 m14 (okB_some hF))
    replace hF := (okB_if hF).2 hc
    refine v_aload_n (pc := 7) (i := 0) dX11_beginSpeech_7 rfl rfl ?_
    refine v_iconst (pc := 8) (v := (2 : Int32)) dX11_beginSpeech_8 rfl ?_
    refine m_putI (pc := 9) (j := 38) dX11_beginSpeech_9 flX11_108 rfl rfl rfl hF (fun m15 hF => ?_)
    refine v_aload_n (pc := 12) (i := 0) dX11_beginSpeech_12 rfl rfl ?_
    refine v_aload_n (pc := 13) (i := 0) dX11_beginSpeech_13 rfl rfl ?_
    refine m_getA (pc := 14) (j := 36) dX11_beginSpeech_14 flX11_80 rfl (by decide) ?_
    refine v_iconst (pc := 17) (v := (0 : Int32)) dX11_beginSpeech_17 rfl ?_
    refine m_iald (pc := 18) (j := 36) dX11_beginSpeech_18 hF (fun x16 hF => ?_)
    refine m_putI (pc := 19) (j := 40) dX11_beginSpeech_19 flX11_200 rfl rfl rfl hF (fun m17 hF => ?_)
    refine v_aload_n (pc := 22) (i := 0) dX11_beginSpeech_22 rfl rfl ?_
    refine m_getA (pc := 23) (j := 35) dX11_beginSpeech_23 flX11_77 rfl (by decide) ?_
    refine v_iconst (pc := 26) (v := (0 : Int32)) dX11_beginSpeech_26 rfl ?_
    refine v_aload_n (pc := 27) (i := 0) dX11_beginSpeech_27 rfl rfl ?_
    refine m_getA (pc := 28) (j := 39) dX11_beginSpeech_28 flX11_83 rfl (by decide) ?_
    refine v_iconst (pc := 31) (v := (0 : Int32)) dX11_beginSpeech_31 rfl ?_
    refine v_aload_n (pc := 32) (i := 0) dX11_beginSpeech_32 rfl rfl ?_
    refine m_getI (pc := 33) (j := 40) dX11_beginSpeech_33 flX11_200 rfl rfl ?_
    refine chM_S (a0 := a0) (h := h) (pc := 36) gU (as := [sr (some (a0 + mo 35)), si (0 : Int32), sr (some (a0 + mo 39)), si (0 : Int32), si (m17 40 0)]) (st := []) (N := mX11_copy) (k := 0) (n := 0) (k1 := 0) (n1 := 0) dX11_beginSpeech_36 lkX11_181 caX11_copy csX11_copy rfl (fun Q1 hq => tX11_copy a0 h 35 (0 : Int32) 39 (0 : Int32) (m17 40 0) m17 Q1 hq) ⟨by decide, by decide⟩ (Nat.le_of_ble_eq_true rfl) rfl hF (fun x18 m19 hF => ?_)
    show gV G mX11_beginSpeech 2 Q 39 [some (sr (some a0))] [] (0) (0) (jn a0 h m19)
    refine v_aload_n (pc := 39) (i := 0) dX11_beginSpeech_39 rfl rfl ?_
    refine chM_V (pc := 40) gU (as := []) (st := []) (N := mX11_takeAlert) (k := 0) (n := 0) (k1 := 0) (n1 := 0) dX11_beginSpeech_40 lkX11_409 caX11_takeAlert cvX11_takeAlert rfl rfl (fun Q1 hq => tX11_takeAlert a0 h m19 Q1 hq) ⟨by decide, by decide⟩ (Nat.le_of_ble_eq_true rfl) rfl hF (fun x20 m21 hF => ?_)
    show gV G mX11_beginSpeech 2 Q 43 [some (sr (some a0))] [] (0) (0) (jn a0 h m21)
    refine v_goto (pc := 43) 134 dX11_beginSpeech_43 rfl ?_
    exact v_lle [some (sr (some a0))] ⟨rfl, trivial⟩ (hj2 m21 (okB_some hF))
  refine v_aload_n (pc := 134) (i := 0) dX11_beginSpeech_134 rfl rfl ?_
  refine v_iconst (pc := 135) (v := (0 : Int32)) dX11_beginSpeech_135 rfl ?_
  refine m_putI (pc := 136) (j := 41) dX11_beginSpeech_136 flX11_197 rfl rfl rfl hF (fun m22 hF => ?_)
  exact v_ret (pc := 139) dX11_beginSpeech_139 rfl (okr hF fun q => q)
