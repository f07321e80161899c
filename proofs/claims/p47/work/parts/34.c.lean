/-! ===== methods: their functions and rows ===== -/
theorem dX10_set_0 : decode cX10_set 0 = .ok (.aload_n 0, 1) := by decide +kernel
theorem dX10_set_1 : decode cX10_set 1 = .ok (.iload_n 1, 1) := by decide +kernel
theorem dX10_set_2 : decode cX10_set 2 = .ok (.invokevirtual 71, 3) := by decide +kernel
theorem dX10_set_5 : decode cX10_set 5 = .ok (.astore_n 3, 1) := by decide +kernel
theorem dX10_set_6 : decode cX10_set 6 = .ok (.aload_n 3, 1) := by decide +kernel
theorem dX10_set_7 : decode cX10_set 7 = .ok (.getfield 152, 3) := by decide +kernel
theorem dX10_set_10 : decode cX10_set 10 = .ok (.iconst 3, 1) := by decide +kernel
theorem dX10_set_11 : decode cX10_set 11 = .ok (.if_icmp .eq 13, 3) := by decide +kernel
theorem dX10_set_14 : decode cX10_set 14 = .ok (.new 63, 3) := by decide +kernel
theorem dX10_set_17 : decode cX10_set 17 = .ok (.dup, 1) := by decide +kernel
theorem dX10_set_18 : decode cX10_set 18 = .ok (.ldc 155, 2) := by decide +kernel
theorem dX10_set_20 : decode cX10_set 20 = .ok (.invokespecial 67, 3) := by decide +kernel
theorem dX10_set_23 : decode cX10_set 23 = .ok (.athrow, 1) := by decide +kernel
theorem dX10_set_24 : decode cX10_set 24 = .ok (.aload_n 0, 1) := by decide +kernel
theorem dX10_set_25 : decode cX10_set 25 = .ok (.invokevirtual 89, 3) := by decide +kernel
theorem dX10_set_28 : decode cX10_set 28 = .ok (.aload_n 3, 1) := by decide +kernel
theorem dX10_set_29 : decode cX10_set 29 = .ok (.getfield 157, 3) := by decide +kernel
theorem dX10_set_32 : decode cX10_set 32 = .ok (.istore 4, 2) := by decide +kernel
theorem dX10_set_34 : decode cX10_set 34 = .ok (.aload_n 3, 1) := by decide +kernel
theorem dX10_set_35 : decode cX10_set 35 = .ok (.iload_n 2, 1) := by decide +kernel
theorem dX10_set_36 : decode cX10_set 36 = .ok (.putfield 157, 3) := by decide +kernel
theorem dX10_set_39 : decode cX10_set 39 = .ok (.iload 4, 2) := by decide +kernel
theorem dX10_set_41 : decode cX10_set 41 = .ok (.iload_n 2, 1) := by decide +kernel
theorem dX10_set_42 : decode cX10_set 42 = .ok (.if_icmp .eq 11, 3) := by decide +kernel
theorem dX10_set_45 : decode cX10_set 45 = .ok (.aload_n 0, 1) := by decide +kernel
theorem dX10_set_46 : decode cX10_set 46 = .ok (.getfield 28, 3) := by decide +kernel
theorem dX10_set_49 : decode cX10_set 49 = .ok (.aload_n 3, 1) := by decide +kernel
theorem dX10_set_50 : decode cX10_set 50 = .ok (.invokevirtual 99, 3) := by decide +kernel
theorem dX10_set_53 : decode cX10_set 53 = .ok (.aload_n 0, 1) := by decide +kernel
theorem dX10_set_54 : decode cX10_set 54 = .ok (.getfield 35, 3) := by decide +kernel
theorem dX10_set_57 : decode cX10_set 57 = .ok (.invokevirtual 149, 3) := by decide +kernel
theorem dX10_set_60 : decode cX10_set 60 = .ok (.iload 4, 2) := by decide +kernel
theorem dX10_set_62 : decode cX10_set 62 = .ok (.ireturn, 1) := by decide +kernel
theorem dX10_setRule_0 : decode cX10_setRule 0 = .ok (.aload_n 0, 1) := by decide +kernel
theorem dX10_setRule_1 : decode cX10_setRule 1 = .ok (.iload_n 1, 1) := by decide +kernel
theorem dX10_setRule_2 : decode cX10_setRule 2 = .ok (.invokevirtual 71, 3) := by decide +kernel
theorem dX10_setRule_5 : decode cX10_setRule 5 = .ok (.astore_n 3, 1) := by decide +kernel
theorem dX10_setRule_6 : decode cX10_setRule 6 = .ok (.iload_n 2, 1) := by decide +kernel
theorem dX10_setRule_7 : decode cX10_setRule 7 = .ok (.iconst (-1), 1) := by decide +kernel
theorem dX10_setRule_8 : decode cX10_setRule 8 = .ok (.if_icmp .eq 22, 3) := by decide +kernel
theorem dX10_setRule_11 : decode cX10_setRule 11 = .ok (.iload_n 2, 1) := by decide +kernel
theorem dX10_setRule_12 : decode cX10_setRule 12 = .ok (.ifCond .lt 8, 3) := by decide +kernel
theorem dX10_setRule_15 : decode cX10_setRule 15 = .ok (.iload_n 2, 1) := by decide +kernel
theorem dX10_setRule_16 : decode cX10_setRule 16 = .ok (.iconst 2, 1) := by decide +kernel
theorem dX10_setRule_17 : decode cX10_setRule 17 = .ok (.if_icmp .le 13, 3) := by decide +kernel
theorem dX10_setRule_20 : decode cX10_setRule 20 = .ok (.new 52, 3) := by decide +kernel
theorem dX10_setRule_23 : decode cX10_setRule 23 = .ok (.dup, 1) := by decide +kernel
theorem dX10_setRule_24 : decode cX10_setRule 24 = .ok (.ldc 160, 2) := by decide +kernel
theorem dX10_setRule_26 : decode cX10_setRule 26 = .ok (.invokespecial 56, 3) := by decide +kernel
theorem dX10_setRule_29 : decode cX10_setRule 29 = .ok (.athrow, 1) := by decide +kernel
theorem dX10_setRule_30 : decode cX10_setRule 30 = .ok (.aload_n 3, 1) := by decide +kernel
theorem dX10_setRule_31 : decode cX10_setRule 31 = .ok (.getfield 162, 3) := by decide +kernel
theorem dX10_setRule_34 : decode cX10_setRule 34 = .ok (.istore 4, 2) := by decide +kernel
theorem dX10_setRule_36 : decode cX10_setRule 36 = .ok (.aload_n 3, 1) := by decide +kernel
theorem dX10_setRule_37 : decode cX10_setRule 37 = .ok (.iload_n 2, 1) := by decide +kernel
theorem dX10_setRule_38 : decode cX10_setRule 38 = .ok (.putfield 162, 3) := by decide +kernel
theorem dX10_setRule_41 : decode cX10_setRule 41 = .ok (.aload_n 0, 1) := by decide +kernel
theorem dX10_setRule_42 : decode cX10_setRule 42 = .ok (.getfield 35, 3) := by decide +kernel
theorem dX10_setRule_45 : decode cX10_setRule 45 = .ok (.invokevirtual 149, 3) := by decide +kernel
theorem dX10_setRule_48 : decode cX10_setRule 48 = .ok (.iload 4, 2) := by decide +kernel
theorem dX10_setRule_50 : decode cX10_setRule 50 = .ok (.ireturn, 1) := by decide +kernel
theorem dX10_elements_0 : decode cX10_elements 0 = .ok (.aload_n 0, 1) := by decide +kernel
theorem dX10_elements_1 : decode cX10_elements 1 = .ok (.getfield 10, 3) := by decide +kernel
theorem dX10_elements_4 : decode cX10_elements 4 = .ok (.getfield 175, 3) := by decide +kernel
theorem dX10_elements_7 : decode cX10_elements 7 = .ok (.ireturn, 1) := by decide +kernel
theorem dX10_kind_0 : decode cX10_kind 0 = .ok (.aload_n 0, 1) := by decide +kernel
theorem dX10_kind_1 : decode cX10_kind 1 = .ok (.iload_n 1, 1) := by decide +kernel
theorem dX10_kind_2 : decode cX10_kind 2 = .ok (.invokevirtual 71, 3) := by decide +kernel
theorem dX10_kind_5 : decode cX10_kind 5 = .ok (.getfield 152, 3) := by decide +kernel
theorem dX10_kind_8 : decode cX10_kind 8 = .ok (.ireturn, 1) := by decide +kernel
theorem dX10_parent_0 : decode cX10_parent 0 = .ok (.aload_n 0, 1) := by decide +kernel
theorem dX10_parent_1 : decode cX10_parent 1 = .ok (.iload_n 1, 1) := by decide +kernel
theorem dX10_parent_2 : decode cX10_parent 2 = .ok (.invokevirtual 71, 3) := by decide +kernel
theorem dX10_parent_5 : decode cX10_parent 5 = .ok (.getfield 178, 3) := by decide +kernel
theorem dX10_parent_8 : decode cX10_parent 8 = .ok (.astore_n 2, 1) := by decide +kernel
theorem dX10_parent_9 : decode cX10_parent 9 = .ok (.aload_n 2, 1) := by decide +kernel
theorem dX10_parent_10 : decode cX10_parent 10 = .ok (.ifnonnull 7, 3) := by decide +kernel
theorem dX10_parent_13 : decode cX10_parent 13 = .ok (.iconst (-1), 1) := by decide +kernel
theorem dX10_parent_14 : decode cX10_parent 14 = .ok (.goto 7, 3) := by decide +kernel
theorem dX10_parent_17 : decode cX10_parent 17 = .ok (.aload_n 2, 1) := by decide +kernel
theorem dX10_parent_18 : decode cX10_parent 18 = .ok (.getfield 103, 3) := by decide +kernel
theorem dX10_parent_21 : decode cX10_parent 21 = .ok (.ireturn, 1) := by decide +kernel
theorem dX10_children_0 : decode cX10_children 0 = .ok (.aload_n 0, 1) := by decide +kernel
theorem dX10_children_1 : decode cX10_children 1 = .ok (.iload_n 1, 1) := by decide +kernel
theorem dX10_children_2 : decode cX10_children 2 = .ok (.invokevirtual 71, 3) := by decide +kernel
theorem dX10_children_5 : decode cX10_children 5 = .ok (.invokevirtual 75, 3) := by decide +kernel
theorem dX10_children_8 : decode cX10_children 8 = .ok (.ireturn, 1) := by decide +kernel
theorem dX10_childAt_0 : decode cX10_childAt 0 = .ok (.aload_n 0, 1) := by decide +kernel
theorem dX10_childAt_1 : decode cX10_childAt 1 = .ok (.iload_n 1, 1) := by decide +kernel
theorem dX10_childAt_2 : decode cX10_childAt 2 = .ok (.invokevirtual 71, 3) := by decide +kernel
theorem dX10_childAt_5 : decode cX10_childAt 5 = .ok (.iload_n 2, 1) := by decide +kernel
theorem dX10_childAt_6 : decode cX10_childAt 6 = .ok (.invokevirtual 182, 3) := by decide +kernel
theorem dX10_childAt_9 : decode cX10_childAt 9 = .ok (.astore_n 3, 1) := by decide +kernel
theorem dX10_childAt_10 : decode cX10_childAt 10 = .ok (.aload_n 3, 1) := by decide +kernel
theorem dX10_childAt_11 : decode cX10_childAt 11 = .ok (.ifnonnull 13, 3) := by decide +kernel
theorem dX10_childAt_14 : decode cX10_childAt 14 = .ok (.new 185, 3) := by decide +kernel
theorem dX10_childAt_17 : decode cX10_childAt 17 = .ok (.dup, 1) := by decide +kernel
theorem dX10_childAt_18 : decode cX10_childAt 18 = .ok (.ldc 187, 2) := by decide +kernel
theorem dX10_childAt_20 : decode cX10_childAt 20 = .ok (.invokespecial 189, 3) := by decide +kernel
theorem dX10_childAt_23 : decode cX10_childAt 23 = .ok (.athrow, 1) := by decide +kernel
theorem dX10_childAt_24 : decode cX10_childAt 24 = .ok (.aload_n 3, 1) := by decide +kernel
theorem dX10_childAt_25 : decode cX10_childAt 25 = .ok (.getfield 103, 3) := by decide +kernel
theorem dX10_childAt_28 : decode cX10_childAt 28 = .ok (.ireturn, 1) := by decide +kernel
theorem dX10_nameLength_0 : decode cX10_nameLength 0 = .ok (.aload_n 0, 1) := by decide +kernel
theorem dX10_nameLength_1 : decode cX10_nameLength 1 = .ok (.iload_n 1, 1) := by decide +kernel
theorem dX10_nameLength_2 : decode cX10_nameLength 2 = .ok (.invokevirtual 71, 3) := by decide +kernel
theorem dX10_nameLength_5 : decode cX10_nameLength 5 = .ok (.getfield 138, 3) := by decide +kernel
theorem dX10_nameLength_8 : decode cX10_nameLength 8 = .ok (.invokevirtual 59, 3) := by decide +kernel
theorem dX10_nameLength_11 : decode cX10_nameLength 11 = .ok (.ireturn, 1) := by decide +kernel
theorem dX10_contentLength_0 : decode cX10_contentLength 0 = .ok (.aload_n 0, 1) := by decide +kernel
theorem dX10_contentLength_1 : decode cX10_contentLength 1 = .ok (.iload_n 1, 1) := by decide +kernel
theorem dX10_contentLength_2 : decode cX10_contentLength 2 = .ok (.invokevirtual 71, 3) := by decide +kernel
theorem dX10_contentLength_5 : decode cX10_contentLength 5 = .ok (.getfield 194, 3) := by decide +kernel
theorem dX10_contentLength_8 : decode cX10_contentLength 8 = .ok (.invokevirtual 59, 3) := by decide +kernel
theorem dX10_contentLength_11 : decode cX10_contentLength 11 = .ok (.ireturn, 1) := by decide +kernel
theorem dX10_isOn_0 : decode cX10_isOn 0 = .ok (.aload_n 0, 1) := by decide +kernel
theorem dX10_isOn_1 : decode cX10_isOn 1 = .ok (.iload_n 1, 1) := by decide +kernel
theorem dX10_isOn_2 : decode cX10_isOn 2 = .ok (.invokevirtual 71, 3) := by decide +kernel
theorem dX10_isOn_5 : decode cX10_isOn 5 = .ok (.getfield 157, 3) := by decide +kernel
theorem dX10_isOn_8 : decode cX10_isOn 8 = .ok (.ireturn, 1) := by decide +kernel
theorem dX10_presses_0 : decode cX10_presses 0 = .ok (.aload_n 0, 1) := by decide +kernel
theorem dX10_presses_1 : decode cX10_presses 1 = .ok (.iload_n 1, 1) := by decide +kernel
theorem dX10_presses_2 : decode cX10_presses 2 = .ok (.invokevirtual 71, 3) := by decide +kernel
theorem dX10_presses_5 : decode cX10_presses 5 = .ok (.getfield 197, 3) := by decide +kernel
theorem dX10_presses_8 : decode cX10_presses 8 = .ok (.ireturn, 1) := by decide +kernel
theorem dX10_isShown_0 : decode cX10_isShown 0 = .ok (.aload_n 0, 1) := by decide +kernel
theorem dX10_isShown_1 : decode cX10_isShown 1 = .ok (.iload_n 1, 1) := by decide +kernel
theorem dX10_isShown_2 : decode cX10_isShown 2 = .ok (.invokevirtual 71, 3) := by decide +kernel
theorem dX10_isShown_5 : decode cX10_isShown 5 = .ok (.invokevirtual 110, 3) := by decide +kernel
theorem dX10_isShown_8 : decode cX10_isShown 8 = .ok (.ireturn, 1) := by decide +kernel
theorem dX10_level_0 : decode cX10_level 0 = .ok (.aload_n 0, 1) := by decide +kernel
theorem dX10_level_1 : decode cX10_level 1 = .ok (.iload_n 1, 1) := by decide +kernel
theorem dX10_level_2 : decode cX10_level 2 = .ok (.invokevirtual 71, 3) := by decide +kernel
theorem dX10_level_5 : decode cX10_level 5 = .ok (.invokevirtual 200, 3) := by decide +kernel
theorem dX10_level_8 : decode cX10_level 8 = .ok (.ireturn, 1) := by decide +kernel
theorem dX10_reading_0 : decode cX10_reading 0 = .ok (.aload_n 0, 1) := by decide +kernel
theorem dX10_reading_1 : decode cX10_reading 1 = .ok (.getfield 10, 3) := by decide +kernel
theorem dX10_reading_4 : decode cX10_reading 4 = .ok (.getfield 203, 3) := by decide +kernel
theorem dX10_reading_7 : decode cX10_reading 7 = .ok (.ireturn, 1) := by decide +kernel
theorem dX10_readingAt_0 : decode cX10_readingAt 0 = .ok (.aload_n 0, 1) := by decide +kernel
theorem dX10_readingAt_1 : decode cX10_readingAt 1 = .ok (.getfield 10, 3) := by decide +kernel
theorem dX10_readingAt_4 : decode cX10_readingAt 4 = .ok (.iload_n 1, 1) := by decide +kernel
theorem dX10_readingAt_5 : decode cX10_readingAt 5 = .ok (.invokevirtual 206, 3) := by decide +kernel
theorem dX10_readingAt_8 : decode cX10_readingAt 8 = .ok (.astore_n 2, 1) := by decide +kernel
theorem dX10_readingAt_9 : decode cX10_readingAt 9 = .ok (.aload_n 2, 1) := by decide +kernel
theorem dX10_readingAt_10 : decode cX10_readingAt 10 = .ok (.ifnonnull 13, 3) := by decide +kernel
theorem dX10_readingAt_13 : decode cX10_readingAt 13 = .ok (.new 185, 3) := by decide +kernel
theorem dX10_readingAt_16 : decode cX10_readingAt 16 = .ok (.dup, 1) := by decide +kernel
theorem dX10_readingAt_17 : decode cX10_readingAt 17 = .ok (.ldc 209, 2) := by decide +kernel
theorem dX10_readingAt_19 : decode cX10_readingAt 19 = .ok (.invokespecial 189, 3) := by decide +kernel
theorem dX10_readingAt_22 : decode cX10_readingAt 22 = .ok (.athrow, 1) := by decide +kernel
theorem dX10_readingAt_23 : decode cX10_readingAt 23 = .ok (.aload_n 2, 1) := by decide +kernel
theorem dX10_readingAt_24 : decode cX10_readingAt 24 = .ok (.getfield 103, 3) := by decide +kernel
theorem dX10_readingAt_27 : decode cX10_readingAt 27 = .ok (.ireturn, 1) := by decide +kernel
theorem dX10_chord_0 : decode cX10_chord 0 = .ok (.iload_n 1, 1) := by decide +kernel
theorem dX10_chord_1 : decode cX10_chord 1 = .ok (.iconst 1, 1) := by decide +kernel
theorem dX10_chord_2 : decode cX10_chord 2 = .ok (.if_icmp .lt 10, 3) := by decide +kernel
theorem dX10_chord_5 : decode cX10_chord 5 = .ok (.iload_n 1, 1) := by decide +kernel
theorem dX10_chord_6 : decode cX10_chord 6 = .ok (.sipush 511, 3) := by decide +kernel
theorem dX10_chord_9 : decode cX10_chord 9 = .ok (.if_icmp .le 13, 3) := by decide +kernel
theorem dX10_chord_12 : decode cX10_chord 12 = .ok (.new 52, 3) := by decide +kernel
theorem dX10_chord_15 : decode cX10_chord 15 = .ok (.dup, 1) := by decide +kernel
theorem dX10_chord_16 : decode cX10_chord 16 = .ok (.ldc 233, 2) := by decide +kernel
theorem dX10_chord_18 : decode cX10_chord 18 = .ok (.invokespecial 56, 3) := by decide +kernel
theorem dX10_chord_21 : decode cX10_chord 21 = .ok (.athrow, 1) := by decide +kernel
theorem dX10_chord_22 : decode cX10_chord 22 = .ok (.aload_n 0, 1) := by decide +kernel
theorem dX10_chord_23 : decode cX10_chord 23 = .ok (.getfield 215, 3) := by decide +kernel
theorem dX10_chord_26 : decode cX10_chord 26 = .ok (.ifCond .eq 13, 3) := by decide +kernel
theorem dX10_chord_29 : decode cX10_chord 29 = .ok (.new 63, 3) := by decide +kernel
theorem dX10_chord_32 : decode cX10_chord 32 = .ok (.dup, 1) := by decide +kernel
theorem dX10_chord_33 : decode cX10_chord 33 = .ok (.ldc 235, 2) := by decide +kernel
theorem dX10_chord_35 : decode cX10_chord 35 = .ok (.invokespecial 67, 3) := by decide +kernel
theorem dX10_chord_38 : decode cX10_chord 38 = .ok (.athrow, 1) := by decide +kernel
theorem dX10_chord_39 : decode cX10_chord 39 = .ok (.aload_n 0, 1) := by decide +kernel
theorem dX10_chord_40 : decode cX10_chord 40 = .ok (.getfield 35, 3) := by decide +kernel
theorem dX10_chord_43 : decode cX10_chord 43 = .ok (.iload_n 1, 1) := by decide +kernel
theorem dX10_chord_44 : decode cX10_chord 44 = .ok (.invokevirtual 230, 3) := by decide +kernel
theorem dX10_chord_47 : decode cX10_chord 47 = .ok (.aload_n 0, 1) := by decide +kernel
theorem dX10_chord_48 : decode cX10_chord 48 = .ok (.getfield 35, 3) := by decide +kernel
theorem dX10_chord_51 : decode cX10_chord 51 = .ok (.getfield 237, 3) := by decide +kernel
theorem dX10_chord_54 : decode cX10_chord 54 = .ok (.getfield 103, 3) := by decide +kernel
theorem dX10_chord_57 : decode cX10_chord 57 = .ok (.ireturn, 1) := by decide +kernel
theorem dX10_cursor_0 : decode cX10_cursor 0 = .ok (.aload_n 0, 1) := by decide +kernel
theorem dX10_cursor_1 : decode cX10_cursor 1 = .ok (.getfield 35, 3) := by decide +kernel
theorem dX10_cursor_4 : decode cX10_cursor 4 = .ok (.getfield 237, 3) := by decide +kernel
theorem dX10_cursor_7 : decode cX10_cursor 7 = .ok (.getfield 103, 3) := by decide +kernel
theorem dX10_cursor_10 : decode cX10_cursor 10 = .ok (.ireturn, 1) := by decide +kernel
theorem dX10_focus_0 : decode cX10_focus 0 = .ok (.aload_n 0, 1) := by decide +kernel
theorem dX10_focus_1 : decode cX10_focus 1 = .ok (.getfield 35, 3) := by decide +kernel
theorem dX10_focus_4 : decode cX10_focus 4 = .ok (.getfield 240, 3) := by decide +kernel
theorem dX10_focus_7 : decode cX10_focus 7 = .ok (.astore_n 1, 1) := by decide +kernel
theorem dX10_focus_8 : decode cX10_focus 8 = .ok (.aload_n 1, 1) := by decide +kernel
theorem dX10_focus_9 : decode cX10_focus 9 = .ok (.ifnonnull 7, 3) := by decide +kernel
theorem dX10_focus_12 : decode cX10_focus 12 = .ok (.iconst (-1), 1) := by decide +kernel
theorem dX10_focus_13 : decode cX10_focus 13 = .ok (.goto 7, 3) := by decide +kernel
theorem dX10_focus_16 : decode cX10_focus 16 = .ok (.aload_n 1, 1) := by decide +kernel
theorem dX10_focus_17 : decode cX10_focus 17 = .ok (.getfield 103, 3) := by decide +kernel
theorem dX10_focus_20 : decode cX10_focus 20 = .ok (.ireturn, 1) := by decide +kernel
theorem dX10_isTyping_0 : decode cX10_isTyping 0 = .ok (.aload_n 0, 1) := by decide +kernel
theorem dX10_isTyping_1 : decode cX10_isTyping 1 = .ok (.getfield 35, 3) := by decide +kernel
theorem dX10_isTyping_4 : decode cX10_isTyping 4 = .ok (.getfield 243, 3) := by decide +kernel
theorem dX10_isTyping_7 : decode cX10_isTyping 7 = .ok (.getfield 247, 3) := by decide +kernel
theorem dX10_isTyping_10 : decode cX10_isTyping 10 = .ok (.ireturn, 1) := by decide +kernel
theorem dX10_offset_0 : decode cX10_offset 0 = .ok (.aload_n 0, 1) := by decide +kernel
theorem dX10_offset_1 : decode cX10_offset 1 = .ok (.getfield 35, 3) := by decide +kernel
theorem dX10_offset_4 : decode cX10_offset 4 = .ok (.getfield 252, 3) := by decide +kernel
theorem dX10_offset_7 : decode cX10_offset 7 = .ok (.getfield 256, 3) := by decide +kernel
theorem dX10_offset_10 : decode cX10_offset 10 = .ok (.ireturn, 1) := by decide +kernel
theorem dX10_lineLength_0 : decode cX10_lineLength 0 = .ok (.aload_n 0, 1) := by decide +kernel
theorem dX10_lineLength_1 : decode cX10_lineLength 1 = .ok (.getfield 35, 3) := by decide +kernel
theorem dX10_lineLength_4 : decode cX10_lineLength 4 = .ok (.getfield 252, 3) := by decide +kernel
theorem dX10_lineLength_7 : decode cX10_lineLength 7 = .ok (.getfield 261, 3) := by decide +kernel
theorem dX10_lineLength_10 : decode cX10_lineLength 10 = .ok (.invokevirtual 59, 3) := by decide +kernel
theorem dX10_lineLength_13 : decode cX10_lineLength 13 = .ok (.ireturn, 1) := by decide +kernel
theorem dX10_refuseNoPin_0 : decode cX10_refuseNoPin 0 = .ok (.iload_n 0, 1) := by decide +kernel
theorem dX10_refuseNoPin_1 : decode cX10_refuseNoPin 1 = .ok (.ifCond .lt 9, 3) := by decide +kernel
theorem dX10_refuseNoPin_4 : decode cX10_refuseNoPin 4 = .ok (.iload_n 0, 1) := by decide +kernel
theorem dX10_refuseNoPin_5 : decode cX10_refuseNoPin 5 = .ok (.bipush 10, 2) := by decide +kernel
theorem dX10_refuseNoPin_7 : decode cX10_refuseNoPin 7 = .ok (.if_icmp .lt 14, 3) := by decide +kernel
theorem dX10_refuseNoPin_10 : decode cX10_refuseNoPin 10 = .ok (.new 185, 3) := by decide +kernel
theorem dX10_refuseNoPin_13 : decode cX10_refuseNoPin 13 = .ok (.dup, 1) := by decide +kernel
theorem dX10_refuseNoPin_14 : decode cX10_refuseNoPin 14 = .ok (.ldc_w 322, 3) := by decide +kernel
theorem dX10_refuseNoPin_17 : decode cX10_refuseNoPin 17 = .ok (.invokespecial 189, 3) := by decide +kernel
theorem dX10_refuseNoPin_20 : decode cX10_refuseNoPin 20 = .ok (.athrow, 1) := by decide +kernel
theorem dX10_refuseNoPin_21 : decode cX10_refuseNoPin 21 = .ok (.return_, 1) := by decide +kernel
theorem dX10_pin_0 : decode cX10_pin 0 = .ok (.iload_n 1, 1) := by decide +kernel
theorem dX10_pin_1 : decode cX10_pin 1 = .ok (.invokestatic 264, 3) := by decide +kernel
theorem dX10_pin_4 : decode cX10_pin 4 = .ok (.aload_n 0, 1) := by decide +kernel
theorem dX10_pin_5 : decode cX10_pin 5 = .ok (.getfield 35, 3) := by decide +kernel
theorem dX10_pin_8 : decode cX10_pin 8 = .ok (.getfield 252, 3) := by decide +kernel
theorem dX10_pin_11 : decode cX10_pin 11 = .ok (.iload_n 1, 1) := by decide +kernel
theorem dX10_pin_12 : decode cX10_pin 12 = .ok (.invokevirtual 267, 3) := by decide +kernel
theorem dX10_pin_15 : decode cX10_pin 15 = .ok (.ireturn, 1) := by decide +kernel
theorem dX10_pinAnew_0 : decode cX10_pinAnew 0 = .ok (.iload_n 1, 1) := by decide +kernel
theorem dX10_pinAnew_1 : decode cX10_pinAnew 1 = .ok (.invokestatic 264, 3) := by decide +kernel
theorem dX10_pinAnew_4 : decode cX10_pinAnew 4 = .ok (.aload_n 0, 1) := by decide +kernel
theorem dX10_pinAnew_5 : decode cX10_pinAnew 5 = .ok (.getfield 35, 3) := by decide +kernel
theorem dX10_pinAnew_8 : decode cX10_pinAnew 8 = .ok (.iload_n 1, 1) := by decide +kernel
theorem dX10_pinAnew_9 : decode cX10_pinAnew 9 = .ok (.invokevirtual 270, 3) := by decide +kernel
theorem dX10_pinAnew_12 : decode cX10_pinAnew 12 = .ok (.ireturn, 1) := by decide +kernel
abbrev mX10_set : gM := (yX10_set, cX10_set, 5, (Option.some FieldType.boolean), [])
theorem caX10_set : cal mX10_set 2 := ⟨xw 1104 (by decide +kernel) rfl, xw 29 (by decide +kernel) rfl, by decide, by decide +kernel⟩
theorem cvX10_set : calV mX10_set := ⟨xw 1102 (by decide +kernel) rfl, xw 1103 (by decide +kernel) rfl⟩
abbrev mX10_setRule : gM := (yX10_setRule, cX10_setRule, 5, (Option.some FieldType.int), [])
theorem caX10_setRule : cal mX10_setRule 2 := ⟨xw 1109 (by decide +kernel) rfl, xw 29 (by decide +kernel) rfl, by decide, by decide +kernel⟩
theorem cvX10_setRule : calV mX10_setRule := ⟨xw 1107 (by decide +kernel) rfl, xw 1108 (by decide +kernel) rfl⟩
abbrev mX10_elements : gM := (yX10_elements, cX10_elements, 1, (Option.some FieldType.int), [])
theorem caX10_elements : cal mX10_elements 0 := ⟨xw 1204 (by decide +kernel) rfl, xw 29 (by decide +kernel) rfl, by decide, by decide +kernel⟩
theorem cvX10_elements : calV mX10_elements := ⟨xw 1202 (by decide +kernel) rfl, xw 1203 (by decide +kernel) rfl⟩
abbrev mX10_kind : gM := (yX10_kind, cX10_kind, 2, (Option.some FieldType.int), [])
theorem caX10_kind : cal mX10_kind 1 := ⟨xw 1158 (by decide +kernel) rfl, xw 29 (by decide +kernel) rfl, by decide, by decide +kernel⟩
theorem cvX10_kind : calV mX10_kind := ⟨xw 1156 (by decide +kernel) rfl, xw 1157 (by decide +kernel) rfl⟩
abbrev mX10_parent : gM := (yX10_parent, cX10_parent, 3, (Option.some FieldType.int), [])
theorem caX10_parent : cal mX10_parent 1 := ⟨xw 1162 (by decide +kernel) rfl, xw 29 (by decide +kernel) rfl, by decide, by decide +kernel⟩
theorem cvX10_parent : calV mX10_parent := ⟨xw 1160 (by decide +kernel) rfl, xw 1161 (by decide +kernel) rfl⟩
abbrev mX10_children : gM := (yX10_children, cX10_children, 2, (Option.some FieldType.int), [])
theorem caX10_children : cal mX10_children 1 := ⟨xw 1166 (by decide +kernel) rfl, xw 29 (by decide +kernel) rfl, by decide, by decide +kernel⟩
theorem cvX10_children : calV mX10_children := ⟨xw 1164 (by decide +kernel) rfl, xw 1165 (by decide +kernel) rfl⟩
abbrev mX10_childAt : gM := (yX10_childAt, cX10_childAt, 4, (Option.some FieldType.int), [])
theorem caX10_childAt : cal mX10_childAt 2 := ⟨xw 1170 (by decide +kernel) rfl, xw 29 (by decide +kernel) rfl, by decide, by decide +kernel⟩
theorem cvX10_childAt : calV mX10_childAt := ⟨xw 1168 (by decide +kernel) rfl, xw 1169 (by decide +kernel) rfl⟩
abbrev mX10_nameLength : gM := (yX10_nameLength, cX10_nameLength, 2, (Option.some FieldType.int), [])
theorem caX10_nameLength : cal mX10_nameLength 1 := ⟨xw 1176 (by decide +kernel) rfl, xw 29 (by decide +kernel) rfl, by decide, by decide +kernel⟩
theorem cvX10_nameLength : calV mX10_nameLength := ⟨xw 1174 (by decide +kernel) rfl, xw 1175 (by decide +kernel) rfl⟩
abbrev mX10_contentLength : gM := (yX10_contentLength, cX10_contentLength, 2, (Option.some FieldType.int), [])
theorem caX10_contentLength : cal mX10_contentLength 1 := ⟨xw 1180 (by decide +kernel) rfl, xw 29 (by decide +kernel) rfl, by decide, by decide +kernel⟩
theorem cvX10_contentLength : calV mX10_contentLength := ⟨xw 1178 (by decide +kernel) rfl, xw 1179 (by decide +kernel) rfl⟩
abbrev mX10_isOn : gM := (yX10_isOn, cX10_isOn, 2, (Option.some FieldType.boolean), [])
theorem caX10_isOn : cal mX10_isOn 1 := ⟨xw 1184 (by decide +kernel) rfl, xw 29 (by decide +kernel) rfl, by decide, by decide +kernel⟩
theorem cvX10_isOn : calV mX10_isOn := ⟨xw 1182 (by decide +kernel) rfl, xw 1183 (by decide +kernel) rfl⟩
abbrev mX10_presses : gM := (yX10_presses, cX10_presses, 2, (Option.some FieldType.int), [])
theorem caX10_presses : cal mX10_presses 1 := ⟨xw 1188 (by decide +kernel) rfl, xw 29 (by decide +kernel) rfl, by decide, by decide +kernel⟩
theorem cvX10_presses : calV mX10_presses := ⟨xw 1186 (by decide +kernel) rfl, xw 1187 (by decide +kernel) rfl⟩
abbrev mX10_isShown : gM := (yX10_isShown, cX10_isShown, 2, (Option.some FieldType.boolean), [])
theorem caX10_isShown : cal mX10_isShown 1 := ⟨xw 1192 (by decide +kernel) rfl, xw 29 (by decide +kernel) rfl, by decide, by decide +kernel⟩
theorem cvX10_isShown : calV mX10_isShown := ⟨xw 1190 (by decide +kernel) rfl, xw 1191 (by decide +kernel) rfl⟩
abbrev mX10_level : gM := (yX10_level, cX10_level, 2, (Option.some FieldType.int), [])
theorem caX10_level : cal mX10_level 1 := ⟨xw 1196 (by decide +kernel) rfl, xw 29 (by decide +kernel) rfl, by decide, by decide +kernel⟩
theorem cvX10_level : calV mX10_level := ⟨xw 1194 (by decide +kernel) rfl, xw 1195 (by decide +kernel) rfl⟩
abbrev mX10_reading : gM := (yX10_reading, cX10_reading, 1, (Option.some FieldType.int), [])
theorem caX10_reading : cal mX10_reading 0 := ⟨xw 1208 (by decide +kernel) rfl, xw 29 (by decide +kernel) rfl, by decide, by decide +kernel⟩
theorem cvX10_reading : calV mX10_reading := ⟨xw 1206 (by decide +kernel) rfl, xw 1207 (by decide +kernel) rfl⟩
abbrev mX10_readingAt : gM := (yX10_readingAt, cX10_readingAt, 3, (Option.some FieldType.int), [])
theorem caX10_readingAt : cal mX10_readingAt 1 := ⟨xw 1152 (by decide +kernel) rfl, xw 29 (by decide +kernel) rfl, by decide, by decide +kernel⟩
theorem cvX10_readingAt : calV mX10_readingAt := ⟨xw 1150 (by decide +kernel) rfl, xw 1151 (by decide +kernel) rfl⟩
abbrev mX10_chord : gM := (yX10_chord, cX10_chord, 2, (Option.some FieldType.int), [])
theorem caX10_chord : cal mX10_chord 1 := ⟨xw 475 (by decide +kernel) rfl, xw 29 (by decide +kernel) rfl, by decide, by decide +kernel⟩
theorem cvX10_chord : calV mX10_chord := ⟨xw 473 (by decide +kernel) rfl, xw 474 (by decide +kernel) rfl⟩
abbrev mX10_cursor : gM := (yX10_cursor, cX10_cursor, 1, (Option.some FieldType.int), [])
theorem caX10_cursor : cal mX10_cursor 0 := ⟨xw 1136 (by decide +kernel) rfl, xw 29 (by decide +kernel) rfl, by decide, by decide +kernel⟩
theorem cvX10_cursor : calV mX10_cursor := ⟨xw 1134 (by decide +kernel) rfl, xw 1135 (by decide +kernel) rfl⟩
abbrev mX10_focus : gM := (yX10_focus, cX10_focus, 2, (Option.some FieldType.int), [])
theorem caX10_focus : cal mX10_focus 0 := ⟨xw 1140 (by decide +kernel) rfl, xw 29 (by decide +kernel) rfl, by decide, by decide +kernel⟩
theorem cvX10_focus : calV mX10_focus := ⟨xw 1138 (by decide +kernel) rfl, xw 1139 (by decide +kernel) rfl⟩
abbrev mX10_isTyping : gM := (yX10_isTyping, cX10_isTyping, 1, (Option.some FieldType.boolean), [])
theorem caX10_isTyping : cal mX10_isTyping 0 := ⟨xw 1148 (by decide +kernel) rfl, xw 29 (by decide +kernel) rfl, by decide, by decide +kernel⟩
theorem cvX10_isTyping : calV mX10_isTyping := ⟨xw 1146 (by decide +kernel) rfl, xw 1147 (by decide +kernel) rfl⟩
abbrev mX10_offset : gM := (yX10_offset, cX10_offset, 1, (Option.some FieldType.int), [])
theorem caX10_offset : cal mX10_offset 0 := ⟨xw 1144 (by decide +kernel) rfl, xw 29 (by decide +kernel) rfl, by decide, by decide +kernel⟩
theorem cvX10_offset : calV mX10_offset := ⟨xw 1142 (by decide +kernel) rfl, xw 1143 (by decide +kernel) rfl⟩
abbrev mX10_lineLength : gM := (yX10_lineLength, cX10_lineLength, 1, (Option.some FieldType.int), [])
theorem caX10_lineLength : cal mX10_lineLength 0 := ⟨xw 1212 (by decide +kernel) rfl, xw 29 (by decide +kernel) rfl, by decide, by decide +kernel⟩
theorem cvX10_lineLength : calV mX10_lineLength := ⟨xw 1210 (by decide +kernel) rfl, xw 1211 (by decide +kernel) rfl⟩
abbrev mX10_refuseNoPin : gM := (yX10_refuseNoPin, cX10_refuseNoPin, 1, (Option.none : Option FieldType), [])
theorem caX10_refuseNoPin : cal mX10_refuseNoPin 1 := ⟨xw 1219 (by decide +kernel) rfl, xw 29 (by decide +kernel) rfl, by decide, by decide +kernel⟩
theorem csX10_refuseNoPin : Cond.static yX10_refuseNoPin ∈ XW := xw 1218 (by decide +kernel) rfl
abbrev mX10_pin : gM := (yX10_pin, cX10_pin, 2, (Option.some FieldType.int), [])
theorem caX10_pin : cal mX10_pin 1 := ⟨xw 1216 (by decide +kernel) rfl, xw 29 (by decide +kernel) rfl, by decide, by decide +kernel⟩
theorem cvX10_pin : calV mX10_pin := ⟨xw 1214 (by decide +kernel) rfl, xw 1215 (by decide +kernel) rfl⟩
abbrev mX10_pinAnew : gM := (yX10_pinAnew, cX10_pinAnew, 2, (Option.some FieldType.int), [])
theorem caX10_pinAnew : cal mX10_pinAnew 1 := ⟨xw 1233 (by decide +kernel) rfl, xw 29 (by decide +kernel) rfl, by decide, by decide +kernel⟩
theorem cvX10_pinAnew : calV mX10_pinAnew := ⟨xw 1231 (by decide +kernel) rfl, xw 1232 (by decide +kernel) rfl⟩
theorem flX10_152 : fl RX10 152 1 1 := ⟨by decide, by decide, xw 90 (by decide +kernel) rfl⟩
theorem flX10_157 : fl RX10 157 1 8 := ⟨by decide, by decide, xw 113 (by decide +kernel) rfl⟩
theorem flX10_162 : fl RX10 162 1 10 := ⟨by decide, by decide, xw 120 (by decide +kernel) rfl⟩
theorem flX10_175 : fl RX10 175 6 3 := ⟨by decide, by decide, xw 163 (by decide +kernel) rfl⟩
theorem lkX10_182 : Cond.methodLink RX10 182 yX2_child ∈ XW := xw 1171 (by decide +kernel) rfl
theorem flX10_194 : fl RX10 194 1 6 := ⟨by decide, by decide, xw 108 (by decide +kernel) rfl⟩
theorem flX10_197 : fl RX10 197 1 9 := ⟨by decide, by decide, xw 118 (by decide +kernel) rfl⟩
theorem lkX10_200 : Cond.methodLink RX10 200 yX2_levelNow ∈ XW := xw 1197 (by decide +kernel) rfl
theorem flX10_203 : fl RX10 203 6 5 := ⟨by decide, by decide, xw 166 (by decide +kernel) rfl⟩
theorem lkX10_206 : Cond.methodLink RX10 206 yX7_inOrder ∈ XW := xw 1153 (by decide +kernel) rfl
theorem flX10_215 : fl RX10 215 9 5 := ⟨by decide, by decide, xw 456 (by decide +kernel) rfl⟩
theorem lkX10_230 : Cond.methodLink RX10 230 yX5_obey ∈ XW := xw 559 (by decide +kernel) rfl
theorem flX10_237 : fl RX10 237 4 5 := ⟨by decide, by decide, xw 430 (by decide +kernel) rfl⟩
theorem flX10_240 : fl RX10 240 4 6 := ⟨by decide, by decide, xw 432 (by decide +kernel) rfl⟩
theorem flX10_243 : fl RX10 243 4 3 := ⟨by decide, by decide, xw 427 (by decide +kernel) rfl⟩
theorem flX10_247 : fl RX10 247 7 0 := ⟨by decide, by decide, xw 298 (by decide +kernel) rfl⟩
theorem flX10_252 : fl RX10 252 4 2 := ⟨by decide, by decide, xw 425 (by decide +kernel) rfl⟩
theorem flX10_256 : fl RX10 256 2 2 := ⟨by decide, by decide, xw 282 (by decide +kernel) rfl⟩
theorem flX10_261 : fl RX10 261 2 0 := ⟨by decide, by decide, xw 278 (by decide +kernel) rfl⟩
theorem lkX10_264 : Cond.methodLink RX10 264 yX10_refuseNoPin ∈ XW := xw 1217 (by decide +kernel) rfl
theorem lkX10_267 : Cond.methodLink RX10 267 yX3_cell ∈ XW := xw 1221 (by decide +kernel) rfl
theorem lkX10_270 : Cond.methodLink RX10 270 yX5_cellAnew ∈ XW := xw 1234 (by decide +kernel) rfl
/-! BrailleDesk.set -/
theorem tX10_set {G : gG} (a0 : Nat) (a1 : Int32) (a2 : Int32) (h : hp) (Q : hQ) (hF : okB (fX10_set a0 a1 a2 h) (pX gI Q)) : gS G mX10_set 8 2 12 [sr (some a0), si a1, si a2] h Q := by
  delta fX10_set at hF
  refine gS_at [some (sr (some a0)), some (si a1), some (si a2), none, none] pl_X10 rfl (Nat.le_of_ble_eq_true rfl) rfl ?_
  refine v_aload_n (pc := 0) (i := 0) dX10_set_0 rfl rfl ?_
  refine v_iload_n (pc := 1) (i := 1) dX10_set_1 rfl rfl ?_
  refine ct_V (pc := 2) gR (as := [si a1]) (st := []) (ci := 9) (N := mX10_existing) (k := 1) (n := 6) (k1 := 1) (n1 := 6) dX10_set_2 lkX10_71 caX10_existing cvX10_existing rfl (by decide) rfl (fun b Q1 hq => tX10_existing b a1 h Q1 hq) ⟨by decide, by decide⟩ (Nat.le_of_ble_eq_true rfl) rfl hF (fun E hp => hp) (fun x1 hF => ?_)
  show gV G mX10_set 8 Q 5 [some (sr (some a0)), some (si a1), some (si a2), none, none] [sr x1] (1) (6) h
  refine v_astore_n (pc := 5) (i := 3) [some (sr (some a0)), some (si a1), some (si a2), some (sr x1), none] dX10_set_5 rfl (by decide) rfl rfl ?_
  refine v_aload_n (pc := 6) (i := 3) dX10_set_6 rfl rfl ?_
  refine s_getI (pc := 7) dX10_set_7 flX10_152 rfl hF (fun x2 hF => ?_)
  refine v_iconst (pc := 10) (v := (3 : Int32)) dX10_set_10 rfl ?_
  refine v_icmp_eq (pc := 11) 24 dX10_set_11 rfl (fun hc => ?_) (fun hc => ?_)
  · replace hF := (okB_if hF).1 hc
    refine v_aload_n (pc := 24) (i := 0) dX10_set_24 rfl rfl ?_
    refine ct_V (pc := 25) gU (as := []) (st := []) (ci := 9) (N := mX10_refuseManyAlerts) (k := 0) (n := 0) (k1 := 1) (n1 := 6) dX10_set_25 lkX10_89 caX10_refuseManyAlerts cvX10_refuseManyAlerts rfl (by decide) rfl (fun b Q1 hq => tX10_refuseManyAlerts b h Q1 hq) ⟨by decide, by decide⟩ (Nat.le_of_ble_eq_true rfl) rfl hF (fun E hp => hp) (fun x3 hF => ?_)
    show gV G mX10_set 8 Q 28 [some (sr (some a0)), some (si a1), some (si a2), some (sr x1), none] [] (0) (0) h
    refine v_aload_n (pc := 28) (i := 3) dX10_set_28 rfl rfl ?_
    refine s_getI (pc := 29) dX10_set_29 flX10_157 rfl hF (fun x4 hF => ?_)
    refine v_istore (pc := 32) (i := 4) [some (sr (some a0)), some (si a1), some (si a2), some (sr x1), some (si x4)] dX10_set_32 (by decide) rfl rfl ?_
    refine v_aload_n (pc := 34) (i := 3) dX10_set_34 rfl rfl ?_
    refine v_iload_n (pc := 35) (i := 2) dX10_set_35 rfl rfl ?_
    refine s_putZ (pc := 36) dX10_set_36 flX10_157 (Or.inl rfl) rfl hF (fun h5 hF => ?_)
    refine v_iload (pc := 39) (i := 4) dX10_set_39 rfl ?_
    refine v_iload_n (pc := 41) (i := 2) dX10_set_41 rfl rfl ?_
    refine mg (X := fun q6 => gV G mX10_set 8 Q 53 [some (sr (some a0)), none, none, none, some (si x4)] [] (0) (0) q6) hF (fun _ hj7 hF => ?_) (fun q6 hF => ?_)
    · refine v_icmp_eq (pc := 42) 53 dX10_set_42 rfl (fun hc => ?_) (fun hc => ?_)
      · replace hF := (okB_if hF).1 hc
        exact v_lle [some (sr (some a0)), none, none, none, some (si x4)] ⟨rfl, rfl, trivial⟩ (hj7 h5 (okB_some hF))
      replace hF := (okB_if hF).2 hc
      refine v_aload_n (pc := 45) (i := 0) dX10_set_45 rfl rfl ?_
      refine s_getR (pc := 46) dX10_set_46 flX10_28 rfl hF (fun x8 hF => ?_)
      refine v_aload_n (pc := 49) (i := 3) dX10_set_49 rfl rfl ?_
      refine ch_V (pc := 50) gU (as := [sr x1]) (st := []) (ci := 5) (N := mX6_tellWords) (k := 0) (n := 0) (k1 := 0) (n1 := 0) dX10_set_50 lkX10_99 caX6_tellWords cvX6_tellWords rfl (by decide) rfl (fun b Q1 hq => tX6_tellWords b x1 h5 Q1 hq) ⟨by decide, by decide⟩ (Nat.le_of_ble_eq_true rfl) rfl hF (fun x9 h10 hF => ?_)
      show gV G mX10_set 8 Q 53 [some (sr (some a0)), some (si a1), some (si a2), some (sr x1), some (si x4)] [] (0) (0) h10
      exact v_lle [some (sr (some a0)), none, none, none, some (si x4)] ⟨rfl, rfl, trivial⟩ (hj7 h10 (okB_some hF))
    refine v_aload_n (pc := 53) (i := 0) dX10_set_53 rfl rfl ?_
    refine s_getR (pc := 54) dX10_set_54 flX10_35 rfl hF (fun x11 hF => ?_)
    refine ch_V (pc := 57) gU (as := []) (st := []) (ci := 4) (N := mX5_refreshPins) (k := 0) (n := 0) (k1 := 0) (n1 := 0) dX10_set_57 lkX10_149 caX5_refreshPins cvX5_refreshPins rfl (by decide) rfl (fun b Q1 hq => tX5_refreshPins b q6 Q1 hq) ⟨by decide, by decide⟩ (Nat.le_of_ble_eq_true rfl) rfl hF (fun x12 h13 hF => ?_)
    show gV G mX10_set 8 Q 60 [some (sr (some a0)), none, none, none, some (si x4)] [] (0) (0) h13
    refine v_iload (pc := 60) (i := 4) dX10_set_60 rfl ?_
    exact s_zret (pc := 62) dX10_set_62 rfl hF (fun hF => (okr hF fun q => q))
  replace hF := (okB_if hF).2 hc
  exact v_throw (pc := 14) (k := 0) (n := 0) 20 dX10_set_14 dX10_set_17 dX10_set_18 dX10_set_20 dX10_set_23 rfl tfit_IllegalStateException tnames twX10_63_67 rfl (by decide) (Nat.le_of_ble_eq_true rfl) rfl (okr hF fun q => q)
/-! BrailleDesk.setRule -/
theorem tX10_setRule {G : gG} (a0 : Nat) (a1 : Int32) (a2 : Int32) (h : hp) (Q : hQ) (hF : okB (fX10_setRule a0 a1 a2 h) (pX gI Q)) : gS G mX10_setRule 8 2 12 [sr (some a0), si a1, si a2] h Q := by
  delta fX10_setRule at hF
  refine gS_at [some (sr (some a0)), some (si a1), some (si a2), none, none] pl_X10 rfl (Nat.le_of_ble_eq_true rfl) rfl ?_
  refine v_aload_n (pc := 0) (i := 0) dX10_setRule_0 rfl rfl ?_
  refine v_iload_n (pc := 1) (i := 1) dX10_setRule_1 rfl rfl ?_
  refine ct_V (pc := 2) gR (as := [si a1]) (st := []) (ci := 9) (N := mX10_existing) (k := 1) (n := 6) (k1 := 1) (n1 := 6) dX10_setRule_2 lkX10_71 caX10_existing cvX10_existing rfl (by decide) rfl (fun b Q1 hq => tX10_existing b a1 h Q1 hq) ⟨by decide, by decide⟩ (Nat.le_of_ble_eq_true rfl) rfl hF (fun E hp => hp) (fun x1 hF => ?_)
  show gV G mX10_setRule 8 Q 5 [some (sr (some a0)), some (si a1), some (si a2), none, none] [sr x1] (1) (6) h
  refine v_astore_n (pc := 5) (i := 3) [some (sr (some a0)), some (si a1), some (si a2), some (sr x1), none] dX10_setRule_5 rfl (by decide) rfl rfl ?_
  refine v_iload_n (pc := 6) (i := 2) dX10_setRule_6 rfl rfl ?_
  refine v_iconst (pc := 7) (v := (-1 : Int32)) dX10_setRule_7 rfl ?_
  refine mgR (X := fun q2 => gV G mX10_setRule 8 Q 30 [some (sr (some a0)), none, some (si a2), some (sr x1), none] [] (0) (0) h) hF (fun _ hj3 hr3 hF => ?_) (fun q2 hF => ?_)
  · refine v_icmp_eq (pc := 8) 30 dX10_setRule_8 rfl (fun hc => ?_) (fun hc => ?_)
    · replace hF := (okB_if hF).1 hc
      exact v_room (k' := 0) (n' := 0) (by decide) (by decide) <| v_lle [some (sr (some a0)), none, some (si a2), some (sr x1), none] ⟨rfl, rfl, rfl, trivial⟩ (hj3 () (okB_some hF))
    replace hF := (okB_if hF).2 hc
    refine v_iload_n (pc := 11) (i := 2) dX10_setRule_11 rfl rfl ?_
    refine v_if_lt (pc := 12) 20 dX10_setRule_12 rfl (fun hc => ?_) (fun hc => ?_)
    · replace hF := (okB_if hF).1 hc
      exact v_throw (pc := 20) (k := 0) (n := 0) 21 dX10_setRule_20 dX10_setRule_23 dX10_setRule_24 dX10_setRule_26 dX10_setRule_29 rfl tfit_IllegalArgumentException tnames twX10_52_56 rfl (by decide) (Nat.le_of_ble_eq_true rfl) rfl (hr3 _ (okB_some hF))
    replace hF := (okB_if hF).2 hc
    refine v_iload_n (pc := 15) (i := 2) dX10_setRule_15 rfl rfl ?_
    refine v_iconst (pc := 16) (v := (2 : Int32)) dX10_setRule_16 rfl ?_
    refine v_icmp_le (pc := 17) 30 dX10_setRule_17 rfl (fun hc => ?_) (fun hc => ?_)
    · replace hF := (okB_if hF).1 hc
      exact v_room (k' := 0) (n' := 0) (by decide) (by decide) <| v_lle [some (sr (some a0)), none, some (si a2), some (sr x1), none] ⟨rfl, rfl, rfl, trivial⟩ (hj3 () (okB_some hF))
    replace hF := (okB_if hF).2 hc
    exact v_throw (pc := 20) (k := 0) (n := 0) 21 dX10_setRule_20 dX10_setRule_23 dX10_setRule_24 dX10_setRule_26 dX10_setRule_29 rfl tfit_IllegalArgumentException tnames twX10_52_56 rfl (by decide) (Nat.le_of_ble_eq_true rfl) rfl (hr3 _ (okB_some hF))
  refine v_aload_n (pc := 30) (i := 3) dX10_setRule_30 rfl rfl ?_
  refine s_getI (pc := 31) dX10_setRule_31 flX10_162 rfl hF (fun x4 hF => ?_)
  refine v_istore (pc := 34) (i := 4) [some (sr (some a0)), none, some (si a2), some (sr x1), some (si x4)] dX10_setRule_34 (by decide) rfl rfl ?_
  refine v_aload_n (pc := 36) (i := 3) dX10_setRule_36 rfl rfl ?_
  refine v_iload_n (pc := 37) (i := 2) dX10_setRule_37 rfl rfl ?_
  refine s_putI (pc := 38) dX10_setRule_38 flX10_162 (Or.inl rfl) rfl hF (fun h5 hF => ?_)
  refine v_aload_n (pc := 41) (i := 0) dX10_setRule_41 rfl rfl ?_
  refine s_getR (pc := 42) dX10_setRule_42 flX10_35 rfl hF (fun x6 hF => ?_)
  refine ch_V (pc := 45) gU (as := []) (st := []) (ci := 4) (N := mX5_refreshPins) (k := 0) (n := 0) (k1 := 0) (n1 := 0) dX10_setRule_45 lkX10_149 caX5_refreshPins cvX5_refreshPins rfl (by decide) rfl (fun b Q1 hq => tX5_refreshPins b h5 Q1 hq) ⟨by decide, by decide⟩ (Nat.le_of_ble_eq_true rfl) rfl hF (fun x7 h8 hF => ?_)
  show gV G mX10_setRule 8 Q 48 [some (sr (some a0)), none, some (si a2), some (sr x1), some (si x4)] [] (0) (0) h8
  refine v_iload (pc := 48) (i := 4) dX10_setRule_48 rfl ?_
  exact v_iret (pc := 50) dX10_setRule_50 rfl rfl (okr hF fun q => q)
/-! BrailleDesk.elements -/
theorem tX10_elements {G : gG} (a0 : Nat) (h : hp) (Q : hQ) (hF : okB (fX10_elements a0 h) (pP gI Q h)) : gS G mX10_elements 0 0 0 [sr (some a0)] h Q := by
  delta fX10_elements at hF
  refine gS_at [some (sr (some a0))] pl_X10 rfl (Nat.le_of_ble_eq_true rfl) rfl ?_
  refine v_aload_n (pc := 0) (i := 0) dX10_elements_0 rfl rfl ?_
  refine s_getR (pc := 1) dX10_elements_1 flX10_10 rfl hF (fun x1 hF => ?_)
  refine s_getI (pc := 4) dX10_elements_4 flX10_175 rfl hF (fun x2 hF => ?_)
  exact v_iret (pc := 7) dX10_elements_7 rfl rfl (okr hF fun q => q)
/-! BrailleDesk.kind -/
theorem tX10_kind {G : gG} (a0 : Nat) (a1 : Int32) (h : hp) (Q : hQ) (hF : okB (fX10_kind a0 a1 h) (pC gI Q h)) : gS G mX10_kind 7 1 6 [sr (some a0), si a1] h Q := by
  delta fX10_kind at hF
  refine gS_at [some (sr (some a0)), some (si a1)] pl_X10 rfl (Nat.le_of_ble_eq_true rfl) rfl ?_
  refine v_aload_n (pc := 0) (i := 0) dX10_kind_0 rfl rfl ?_
  refine v_iload_n (pc := 1) (i := 1) dX10_kind_1 rfl rfl ?_
  refine ct_V (pc := 2) gR (as := [si a1]) (st := []) (ci := 9) (N := mX10_existing) (k := 0) (n := 0) (k1 := 1) (n1 := 6) dX10_kind_2 lkX10_71 caX10_existing cvX10_existing rfl (by decide) rfl (fun b Q1 hq => tX10_existing b a1 h Q1 hq) ⟨by decide, by decide⟩ (Nat.le_of_ble_eq_true rfl) rfl hF (fun E hp => hp) (fun x1 hF => ?_)
  show gV G mX10_kind 7 Q 5 [some (sr (some a0)), some (si a1)] [sr x1] (0) (0) h
  refine s_getI (pc := 5) dX10_kind_5 flX10_152 rfl hF (fun x2 hF => ?_)
  exact v_iret (pc := 8) dX10_kind_8 rfl rfl (okr hF fun q => q)
/-! BrailleDesk.parent -/
theorem tX10_parent {G : gG} (a0 : Nat) (a1 : Int32) (h : hp) (Q : hQ) (hF : okB (fX10_parent a0 a1 h) (pC gI Q h)) : gS G mX10_parent 7 1 6 [sr (some a0), si a1] h Q := by
  delta fX10_parent at hF
  refine gS_at [some (sr (some a0)), some (si a1), none] pl_X10 rfl (Nat.le_of_ble_eq_true rfl) rfl ?_
  refine v_aload_n (pc := 0) (i := 0) dX10_parent_0 rfl rfl ?_
  refine v_iload_n (pc := 1) (i := 1) dX10_parent_1 rfl rfl ?_
  refine ct_V (pc := 2) gR (as := [si a1]) (st := []) (ci := 9) (N := mX10_existing) (k := 0) (n := 0) (k1 := 1) (n1 := 6) dX10_parent_2 lkX10_71 caX10_existing cvX10_existing rfl (by decide) rfl (fun b Q1 hq => tX10_existing b a1 h Q1 hq) ⟨by decide, by decide⟩ (Nat.le_of_ble_eq_true rfl) rfl hF (fun E hp => hp) (fun x1 hF => ?_)
  show gV G mX10_parent 7 Q 5 [some (sr (some a0)), some (si a1), none] [sr x1] (0) (0) h
  refine s_getR (pc := 5) dX10_parent_5 flX10_178 rfl hF (fun x2 hF => ?_)
  refine v_astore_n (pc := 8) (i := 2) [some (sr (some a0)), some (si a1), some (sr x2)] dX10_parent_8 rfl (by decide) rfl rfl ?_
  refine v_aload_n (pc := 9) (i := 2) dX10_parent_9 rfl rfl ?_
  refine s_ifnonnull (pc := 10) 17 dX10_parent_10 rfl hF (fun hF => ?_) (fun hF => ?_)
  · refine v_aload_n (pc := 17) (i := 2) dX10_parent_17 rfl rfl ?_
    refine s_getI (pc := 18) dX10_parent_18 flX10_103 rfl hF (fun x3 hF => ?_)
    exact v_iret (pc := 21) dX10_parent_21 rfl rfl (okr hF fun q => q)
  refine v_iconst (pc := 13) (v := (-1 : Int32)) dX10_parent_13 rfl ?_
  refine v_goto (pc := 14) 21 dX10_parent_14 rfl ?_
  exact v_iret (pc := 21) dX10_parent_21 rfl rfl (okr hF fun q => q)
/-! BrailleDesk.children -/
theorem tX10_children {G : gG} (a0 : Nat) (a1 : Int32) (h : hp) (Q : hQ) (hF : okB (fX10_children a0 a1 h) (pC gI Q h)) : gS G mX10_children 7 1 6 [sr (some a0), si a1] h Q := by
  delta fX10_children at hF
  refine gS_at [some (sr (some a0)), some (si a1)] pl_X10 rfl (Nat.le_of_ble_eq_true rfl) rfl ?_
  refine v_aload_n (pc := 0) (i := 0) dX10_children_0 rfl rfl ?_
  refine v_iload_n (pc := 1) (i := 1) dX10_children_1 rfl rfl ?_
  refine ct_V (pc := 2) gR (as := [si a1]) (st := []) (ci := 9) (N := mX10_existing) (k := 0) (n := 0) (k1 := 1) (n1 := 6) dX10_children_2 lkX10_71 caX10_existing cvX10_existing rfl (by decide) rfl (fun b Q1 hq => tX10_existing b a1 h Q1 hq) ⟨by decide, by decide⟩ (Nat.le_of_ble_eq_true rfl) rfl hF (fun E hp => hp) (fun x1 hF => ?_)
  show gV G mX10_children 7 Q 5 [some (sr (some a0)), some (si a1)] [sr x1] (0) (0) h
  refine cp_V (pc := 5) gI (as := []) (st := []) (ci := 1) (N := mX2_size) (k := 0) (n := 0) (k1 := 0) (n1 := 0) dX10_children_5 lkX10_75 caX2_size cvX2_size rfl (by decide) rfl (fun b Q1 hq => tX2_size b h Q1 hq) ⟨by decide, by decide⟩ (Nat.le_of_ble_eq_true rfl) rfl hF (fun x2 hF => ?_)
  show gV G mX10_children 7 Q 8 [some (sr (some a0)), some (si a1)] [si x2] (0) (0) h
  exact v_iret (pc := 8) dX10_children_8 rfl rfl (okr hF fun q => q)
/-! BrailleDesk.childAt -/
theorem tX10_childAt {G : gG} (a0 : Nat) (a1 : Int32) (a2 : Int32) (h : hp) (Q : hQ) (hF : okB (fX10_childAt a0 a1 a2 h) (pC gI Q h)) : gS G mX10_childAt 7 2 12 [sr (some a0), si a1, si a2] h Q := by
  delta fX10_childAt at hF
  refine gS_at [some (sr (some a0)), some (si a1), some (si a2), none] pl_X10 rfl (Nat.le_of_ble_eq_true rfl) rfl ?_
  refine v_aload_n (pc := 0) (i := 0) dX10_childAt_0 rfl rfl ?_
  refine v_iload_n (pc := 1) (i := 1) dX10_childAt_1 rfl rfl ?_
  refine ct_V (pc := 2) gR (as := [si a1]) (st := []) (ci := 9) (N := mX10_existing) (k := 1) (n := 6) (k1 := 1) (n1 := 6) dX10_childAt_2 lkX10_71 caX10_existing cvX10_existing rfl (by decide) rfl (fun b Q1 hq => tX10_existing b a1 h Q1 hq) ⟨by decide, by decide⟩ (Nat.le_of_ble_eq_true rfl) rfl hF (fun E hp => hp) (fun x1 hF => ?_)
  show gV G mX10_childAt 7 Q 5 [some (sr (some a0)), some (si a1), some (si a2), none] [sr x1] (1) (6) h
  refine v_iload_n (pc := 5) (i := 2) dX10_childAt_5 rfl rfl ?_
  refine cp_V (pc := 6) gR (as := [si a2]) (st := []) (ci := 1) (N := mX2_child) (k := 1) (n := 6) (k1 := 0) (n1 := 0) dX10_childAt_6 lkX10_182 caX2_child cvX2_child rfl (by decide) rfl (fun b Q1 hq => tX2_child b a2 h Q1 hq) ⟨by decide, by decide⟩ (Nat.le_of_ble_eq_true rfl) rfl hF (fun x2 hF => ?_)
  show gV G mX10_childAt 7 Q 9 [some (sr (some a0)), some (si a1), some (si a2), none] [sr x2] (1) (6) h
  refine v_astore_n (pc := 9) (i := 3) [some (sr (some a0)), some (si a1), some (si a2), some (sr x2)] dX10_childAt_9 rfl (by decide) rfl rfl ?_
  refine v_aload_n (pc := 10) (i := 3) dX10_childAt_10 rfl rfl ?_
  refine s_ifnonnull (pc := 11) 24 dX10_childAt_11 rfl hF (fun hF => ?_) (fun hF => ?_)
  · refine v_aload_n (pc := 24) (i := 3) dX10_childAt_24 rfl rfl ?_
    refine s_getI (pc := 25) dX10_childAt_25 flX10_103 rfl hF (fun x3 hF => ?_)
    exact v_iret (pc := 28) dX10_childAt_28 rfl rfl (okr hF fun q => q)
  exact v_throw (pc := 14) (k := 0) (n := 0) 24 dX10_childAt_14 dX10_childAt_17 dX10_childAt_18 dX10_childAt_20 dX10_childAt_23 rfl tfit_IndexOutOfBoundsException tnames twX10_185_189 rfl (by decide) (Nat.le_of_ble_eq_true rfl) rfl (okr hF fun q => q)
/-! BrailleDesk.nameLength -/
theorem tX10_nameLength {G : gG} (a0 : Nat) (a1 : Int32) (h : hp) (Q : hQ) (hF : okB (fX10_nameLength a0 a1 h) (pC gI Q h)) : gS G mX10_nameLength 7 1 6 [sr (some a0), si a1] h Q := by
  delta fX10_nameLength at hF
  refine gS_at [some (sr (some a0)), some (si a1)] pl_X10 rfl (Nat.le_of_ble_eq_true rfl) rfl ?_
  refine v_aload_n (pc := 0) (i := 0) dX10_nameLength_0 rfl rfl ?_
  refine v_iload_n (pc := 1) (i := 1) dX10_nameLength_1 rfl rfl ?_
  refine ct_V (pc := 2) gR (as := [si a1]) (st := []) (ci := 9) (N := mX10_existing) (k := 0) (n := 0) (k1 := 1) (n1 := 6) dX10_nameLength_2 lkX10_71 caX10_existing cvX10_existing rfl (by decide) rfl (fun b Q1 hq => tX10_existing b a1 h Q1 hq) ⟨by decide, by decide⟩ (Nat.le_of_ble_eq_true rfl) rfl hF (fun E hp => hp) (fun x1 hF => ?_)
  show gV G mX10_nameLength 7 Q 5 [some (sr (some a0)), some (si a1)] [sr x1] (0) (0) h
  refine s_getR (pc := 5) dX10_nameLength_5 flX10_138 rfl hF (fun x2 hF => ?_)
  refine cp_V (pc := 8) gI (as := []) (st := []) (ci := 0) (N := mX1_size) (k := 0) (n := 0) (k1 := 0) (n1 := 0) dX10_nameLength_8 lkX10_59 caX1_size cvX1_size rfl (by decide) rfl (fun b Q1 hq => tX1_size b h Q1 hq) ⟨by decide, by decide⟩ (Nat.le_of_ble_eq_true rfl) rfl hF (fun x3 hF => ?_)
  show gV G mX10_nameLength 7 Q 11 [some (sr (some a0)), some (si a1)] [si x3] (0) (0) h
  exact v_iret (pc := 11) dX10_nameLength_11 rfl rfl (okr hF fun q => q)
/-! BrailleDesk.contentLength -/
theorem tX10_contentLength {G : gG} (a0 : Nat) (a1 : Int32) (h : hp) (Q : hQ) (hF : okB (fX10_contentLength a0 a1 h) (pC gI Q h)) : gS G mX10_contentLength 7 1 6 [sr (some a0), si a1] h Q := by
  delta fX10_contentLength at hF
  refine gS_at [some (sr (some a0)), some (si a1)] pl_X10 rfl (Nat.le_of_ble_eq_true rfl) rfl ?_
  refine v_aload_n (pc := 0) (i := 0) dX10_contentLength_0 rfl rfl ?_
  refine v_iload_n (pc := 1) (i := 1) dX10_contentLength_1 rfl rfl ?_
  refine ct_V (pc := 2) gR (as := [si a1]) (st := []) (ci := 9) (N := mX10_existing) (k := 0) (n := 0) (k1 := 1) (n1 := 6) dX10_contentLength_2 lkX10_71 caX10_existing cvX10_existing rfl (by decide) rfl (fun b Q1 hq => tX10_existing b a1 h Q1 hq) ⟨by decide, by decide⟩ (Nat.le_of_ble_eq_true rfl) rfl hF (fun E hp => hp) (fun x1 hF => ?_)
  show gV G mX10_contentLength 7 Q 5 [some (sr (some a0)), some (si a1)] [sr x1] (0) (0) h
  refine s_getR (pc := 5) dX10_contentLength_5 flX10_194 rfl hF (fun x2 hF => ?_)
  refine cp_V (pc := 8) gI (as := []) (st := []) (ci := 0) (N := mX1_size) (k := 0) (n := 0) (k1 := 0) (n1 := 0) dX10_contentLength_8 lkX10_59 caX1_size cvX1_size rfl (by decide) rfl (fun b Q1 hq => tX1_size b h Q1 hq) ⟨by decide, by decide⟩ (Nat.le_of_ble_eq_true rfl) rfl hF (fun x3 hF => ?_)
  show gV G mX10_contentLength 7 Q 11 [some (sr (some a0)), some (si a1)] [si x3] (0) (0) h
  exact v_iret (pc := 11) dX10_contentLength_11 rfl rfl (okr hF fun q => q)
/-! BrailleDesk.isOn -/
theorem tX10_isOn {G : gG} (a0 : Nat) (a1 : Int32) (h : hp) (Q : hQ) (hF : okB (fX10_isOn a0 a1 h) (pC gI Q h)) : gS G mX10_isOn 7 1 6 [sr (some a0), si a1] h Q := by
  delta fX10_isOn at hF
  refine gS_at [some (sr (some a0)), some (si a1)] pl_X10 rfl (Nat.le_of_ble_eq_true rfl) rfl ?_
  refine v_aload_n (pc := 0) (i := 0) dX10_isOn_0 rfl rfl ?_
  refine v_iload_n (pc := 1) (i := 1) dX10_isOn_1 rfl rfl ?_
  refine ct_V (pc := 2) gR (as := [si a1]) (st := []) (ci := 9) (N := mX10_existing) (k := 0) (n := 0) (k1 := 1) (n1 := 6) dX10_isOn_2 lkX10_71 caX10_existing cvX10_existing rfl (by decide) rfl (fun b Q1 hq => tX10_existing b a1 h Q1 hq) ⟨by decide, by decide⟩ (Nat.le_of_ble_eq_true rfl) rfl hF (fun E hp => hp) (fun x1 hF => ?_)
  show gV G mX10_isOn 7 Q 5 [some (sr (some a0)), some (si a1)] [sr x1] (0) (0) h
  refine s_getI (pc := 5) dX10_isOn_5 flX10_157 rfl hF (fun x2 hF => ?_)
  exact s_zret (pc := 8) dX10_isOn_8 rfl hF (fun hF => (okr hF fun q => q))
/-! BrailleDesk.presses -/
theorem tX10_presses {G : gG} (a0 : Nat) (a1 : Int32) (h : hp) (Q : hQ) (hF : okB (fX10_presses a0 a1 h) (pC gI Q h)) : gS G mX10_presses 7 1 6 [sr (some a0), si a1] h Q := by
  delta fX10_presses at hF
  refine gS_at [some (sr (some a0)), some (si a1)] pl_X10 rfl (Nat.le_of_ble_eq_true rfl) rfl ?_
  refine v_aload_n (pc := 0) (i := 0) dX10_presses_0 rfl rfl ?_
  refine v_iload_n (pc := 1) (i := 1) dX10_presses_1 rfl rfl ?_
  refine ct_V (pc := 2) gR (as := [si a1]) (st := []) (ci := 9) (N := mX10_existing) (k := 0) (n := 0) (k1 := 1) (n1 := 6) dX10_presses_2 lkX10_71 caX10_existing cvX10_existing rfl (by decide) rfl (fun b Q1 hq => tX10_existing b a1 h Q1 hq) ⟨by decide, by decide⟩ (Nat.le_of_ble_eq_true rfl) rfl hF (fun E hp => hp) (fun x1 hF => ?_)
  show gV G mX10_presses 7 Q 5 [some (sr (some a0)), some (si a1)] [sr x1] (0) (0) h
  refine s_getI (pc := 5) dX10_presses_5 flX10_197 rfl hF (fun x2 hF => ?_)
  exact v_iret (pc := 8) dX10_presses_8 rfl rfl (okr hF fun q => q)
/-! BrailleDesk.isShown -/
theorem tX10_isShown {G : gG} (a0 : Nat) (a1 : Int32) (h : hp) (Q : hQ) (hF : okB (fX10_isShown a0 a1 h) (pC gI Q h)) : gS G mX10_isShown 7 1 6 [sr (some a0), si a1] h Q := by
  delta fX10_isShown at hF
  refine gS_at [some (sr (some a0)), some (si a1)] pl_X10 rfl (Nat.le_of_ble_eq_true rfl) rfl ?_
  refine v_aload_n (pc := 0) (i := 0) dX10_isShown_0 rfl rfl ?_
  refine v_iload_n (pc := 1) (i := 1) dX10_isShown_1 rfl rfl ?_
  refine ct_V (pc := 2) gR (as := [si a1]) (st := []) (ci := 9) (N := mX10_existing) (k := 0) (n := 0) (k1 := 1) (n1 := 6) dX10_isShown_2 lkX10_71 caX10_existing cvX10_existing rfl (by decide) rfl (fun b Q1 hq => tX10_existing b a1 h Q1 hq) ⟨by decide, by decide⟩ (Nat.le_of_ble_eq_true rfl) rfl hF (fun E hp => hp) (fun x1 hF => ?_)
  show gV G mX10_isShown 7 Q 5 [some (sr (some a0)), some (si a1)] [sr x1] (0) (0) h
  refine cp_V (pc := 5) gI (as := []) (st := []) (ci := 1) (N := mX2_isShownNow) (k := 0) (n := 0) (k1 := 0) (n1 := 0) dX10_isShown_5 lkX10_110 caX2_isShownNow cvX2_isShownNow rfl (by decide) rfl (fun b Q1 hq => tX2_isShownNow b h Q1 hq) ⟨by decide, by decide⟩ (Nat.le_of_ble_eq_true rfl) rfl hF (fun x2 hF => ?_)
  show gV G mX10_isShown 7 Q 8 [some (sr (some a0)), some (si a1)] [si x2] (0) (0) h
  exact s_zret (pc := 8) dX10_isShown_8 rfl hF (fun hF => (okr hF fun q => q))
/-! BrailleDesk.level -/
theorem tX10_level {G : gG} (a0 : Nat) (a1 : Int32) (h : hp) (Q : hQ) (hF : okB (fX10_level a0 a1 h) (pC gI Q h)) : gS G mX10_level 7 1 6 [sr (some a0), si a1] h Q := by
  delta fX10_level at hF
  refine gS_at [some (sr (some a0)), some (si a1)] pl_X10 rfl (Nat.le_of_ble_eq_true rfl) rfl ?_
  refine v_aload_n (pc := 0) (i := 0) dX10_level_0 rfl rfl ?_
  refine v_iload_n (pc := 1) (i := 1) dX10_level_1 rfl rfl ?_
  refine ct_V (pc := 2) gR (as := [si a1]) (st := []) (ci := 9) (N := mX10_existing) (k := 0) (n := 0) (k1 := 1) (n1 := 6) dX10_level_2 lkX10_71 caX10_existing cvX10_existing rfl (by decide) rfl (fun b Q1 hq => tX10_existing b a1 h Q1 hq) ⟨by decide, by decide⟩ (Nat.le_of_ble_eq_true rfl) rfl hF (fun E hp => hp) (fun x1 hF => ?_)
  show gV G mX10_level 7 Q 5 [some (sr (some a0)), some (si a1)] [sr x1] (0) (0) h
  refine cp_V (pc := 5) gI (as := []) (st := []) (ci := 1) (N := mX2_levelNow) (k := 0) (n := 0) (k1 := 0) (n1 := 0) dX10_level_5 lkX10_200 caX2_levelNow cvX2_levelNow rfl (by decide) rfl (fun b Q1 hq => tX2_levelNow b h Q1 hq) ⟨by decide, by decide⟩ (Nat.le_of_ble_eq_true rfl) rfl hF (fun x2 hF => ?_)
  show gV G mX10_level 7 Q 8 [some (sr (some a0)), some (si a1)] [si x2] (0) (0) h
  exact v_iret (pc := 8) dX10_level_8 rfl rfl (okr hF fun q => q)
/-! BrailleDesk.reading -/
theorem tX10_reading {G : gG} (a0 : Nat) (h : hp) (Q : hQ) (hF : okB (fX10_reading a0 h) (pP gI Q h)) : gS G mX10_reading 0 0 0 [sr (some a0)] h Q := by
  delta fX10_reading at hF
  refine gS_at [some (sr (some a0))] pl_X10 rfl (Nat.le_of_ble_eq_true rfl) rfl ?_
  refine v_aload_n (pc := 0) (i := 0) dX10_reading_0 rfl rfl ?_
  refine s_getR (pc := 1) dX10_reading_1 flX10_10 rfl hF (fun x1 hF => ?_)
  refine s_getI (pc := 4) dX10_reading_4 flX10_203 rfl hF (fun x2 hF => ?_)
  exact v_iret (pc := 7) dX10_reading_7 rfl rfl (okr hF fun q => q)
/-! BrailleDesk.readingAt -/
theorem tX10_readingAt {G : gG} (a0 : Nat) (a1 : Int32) (h : hp) (Q : hQ) (hF : okB (fX10_readingAt a0 a1 h) (pC gI Q h)) : gS G mX10_readingAt 6 1 6 [sr (some a0), si a1] h Q := by
  delta fX10_readingAt at hF
  refine gS_at [some (sr (some a0)), some (si a1), none] pl_X10 rfl (Nat.le_of_ble_eq_true rfl) rfl ?_
  refine v_aload_n (pc := 0) (i := 0) dX10_readingAt_0 rfl rfl ?_
  refine s_getR (pc := 1) dX10_readingAt_1 flX10_10 rfl hF (fun x1 hF => ?_)
  refine v_iload_n (pc := 4) (i := 1) dX10_readingAt_4 rfl rfl ?_
  refine cp_V (pc := 5) gR (as := [si a1]) (st := []) (ci := 6) (N := mX7_inOrder) (k := 1) (n := 6) (k1 := 0) (n1 := 0) dX10_readingAt_5 lkX10_206 caX7_inOrder cvX7_inOrder rfl (by decide) rfl (fun b Q1 hq => tX7_inOrder b a1 h Q1 hq) ⟨by decide, by decide⟩ (Nat.le_of_ble_eq_true rfl) rfl hF (fun x2 hF => ?_)
  show gV G mX10_readingAt 6 Q 8 [some (sr (some a0)), some (si a1), none] [sr x2] (1) (6) h
  refine v_astore_n (pc := 8) (i := 2) [some (sr (some a0)), some (si a1), some (sr x2)] dX10_readingAt_8 rfl (by decide) rfl rfl ?_
  refine v_aload_n (pc := 9) (i := 2) dX10_readingAt_9 rfl rfl ?_
  refine s_ifnonnull (pc := 10) 23 dX10_readingAt_10 rfl hF (fun hF => ?_) (fun hF => ?_)
  · refine v_aload_n (pc := 23) (i := 2) dX10_readingAt_23 rfl rfl ?_
    refine s_getI (pc := 24) dX10_readingAt_24 flX10_103 rfl hF (fun x3 hF => ?_)
    exact v_iret (pc := 27) dX10_readingAt_27 rfl rfl (okr hF fun q => q)
  exact v_throw (pc := 13) (k := 0) (n := 0) 26 dX10_readingAt_13 dX10_readingAt_16 dX10_readingAt_17 dX10_readingAt_19 dX10_readingAt_22 rfl tfit_IndexOutOfBoundsException tnames twX10_185_189 rfl (by decide) (Nat.le_of_ble_eq_true rfl) rfl (okr hF fun q => q)
/-! BrailleDesk.chord -/
theorem tX10_chord {G : gG} (a0 : Nat) (a1 : Int32) (h : hp) (Q : hQ) (hF : okB (fX10_chord a0 a1 h) (pX gI Q)) : gS G mX10_chord 9 1 6 [sr (some a0), si a1] h Q := by
  delta fX10_chord at hF
  refine gS_at [some (sr (some a0)), some (si a1)] pl_X10 rfl (Nat.le_of_ble_eq_true rfl) rfl ?_
  refine v_iload_n (pc := 0) (i := 1) dX10_chord_0 rfl rfl ?_
  refine v_iconst (pc := 1) (v := (1 : Int32)) dX10_chord_1 rfl ?_
  refine v_icmp_lt (pc := 2) 12 dX10_chord_2 rfl (fun hc => ?_) (fun hc => ?_)
  · replace hF := (okB_if hF).1 hc
    exact v_throw (pc := 12) (k := 0) (n := 0) 38 dX10_chord_12 dX10_chord_15 dX10_chord_16 dX10_chord_18 dX10_chord_21 rfl tfit_IllegalArgumentException tnames twX10_52_56 rfl (by decide) (Nat.le_of_ble_eq_true rfl) rfl (okr hF fun q => q)
  replace hF := (okB_if hF).2 hc
  refine v_iload_n (pc := 5) (i := 1) dX10_chord_5 rfl rfl ?_
  refine v_sipush (pc := 6) (v := (511 : Int32)) dX10_chord_6 rfl ?_
  refine v_icmp_le (pc := 9) 22 dX10_chord_9 rfl (fun hc => ?_) (fun hc => ?_)
  · replace hF := (okB_if hF).1 hc
    refine v_aload_n (pc := 22) (i := 0) dX10_chord_22 rfl rfl ?_
    refine s_getI (pc := 23) dX10_chord_23 flX10_215 rfl hF (fun x1 hF => ?_)
    refine v_if_eq (pc := 26) 39 dX10_chord_26 rfl (fun hc => ?_) (fun hc => ?_)
    · replace hF := (okB_if hF).1 hc
      refine v_aload_n (pc := 39) (i := 0) dX10_chord_39 rfl rfl ?_
      refine s_getR (pc := 40) dX10_chord_40 flX10_35 rfl hF (fun x2 hF => ?_)
      refine v_iload_n (pc := 43) (i := 1) dX10_chord_43 rfl rfl ?_
      refine ch_V (pc := 44) gU (as := [si a1]) (st := []) (ci := 4) (N := mX5_obey) (k := 1) (n := 6) (k1 := 0) (n1 := 0) dX10_chord_44 lkX10_230 caX5_obey cvX5_obey rfl (by decide) rfl (fun b Q1 hq => tX5_obey b a1 h Q1 hq) ⟨by decide, by decide⟩ (Nat.le_of_ble_eq_true rfl) rfl hF (fun x3 h4 hF => ?_)
      show gV G mX10_chord 9 Q 47 [some (sr (some a0)), some (si a1)] [] (1) (6) h4
      refine v_aload_n (pc := 47) (i := 0) dX10_chord_47 rfl rfl ?_
      refine s_getR (pc := 48) dX10_chord_48 flX10_35 rfl hF (fun x5 hF => ?_)
      refine s_getR (pc := 51) dX10_chord_51 flX10_237 rfl hF (fun x6 hF => ?_)
      refine s_getI (pc := 54) dX10_chord_54 flX10_103 rfl hF (fun x7 hF => ?_)
      exact v_iret (pc := 57) dX10_chord_57 rfl rfl (okr hF fun q => q)
    replace hF := (okB_if hF).2 hc
    exact v_throw (pc := 29) (k := 0) (n := 0) 39 dX10_chord_29 dX10_chord_32 dX10_chord_33 dX10_chord_35 dX10_chord_38 rfl tfit_IllegalStateException tnames twX10_63_67 rfl (by decide) (Nat.le_of_ble_eq_true rfl) rfl (okr hF fun q => q)
  replace hF := (okB_if hF).2 hc
  exact v_throw (pc := 12) (k := 0) (n := 0) 38 dX10_chord_12 dX10_chord_15 dX10_chord_16 dX10_chord_18 dX10_chord_21 rfl tfit_IllegalArgumentException tnames twX10_52_56 rfl (by decide) (Nat.le_of_ble_eq_true rfl) rfl (okr hF fun q => q)
/-! BrailleDesk.cursor -/
theorem tX10_cursor {G : gG} (a0 : Nat) (h : hp) (Q : hQ) (hF : okB (fX10_cursor a0 h) (pP gI Q h)) : gS G mX10_cursor 0 0 0 [sr (some a0)] h Q := by
  delta fX10_cursor at hF
  refine gS_at [some (sr (some a0))] pl_X10 rfl (Nat.le_of_ble_eq_true rfl) rfl ?_
  refine v_aload_n (pc := 0) (i := 0) dX10_cursor_0 rfl rfl ?_
  refine s_getR (pc := 1) dX10_cursor_1 flX10_35 rfl hF (fun x1 hF => ?_)
  refine s_getR (pc := 4) dX10_cursor_4 flX10_237 rfl hF (fun x2 hF => ?_)
  refine s_getI (pc := 7) dX10_cursor_7 flX10_103 rfl hF (fun x3 hF => ?_)
  exact v_iret (pc := 10) dX10_cursor_10 rfl rfl (okr hF fun q => q)
/-! BrailleDesk.focus -/
theorem tX10_focus {G : gG} (a0 : Nat) (h : hp) (Q : hQ) (hF : okB (fX10_focus a0 h) (pP gI Q h)) : gS G mX10_focus 0 0 0 [sr (some a0)] h Q := by
  delta fX10_focus at hF
  refine gS_at [some (sr (some a0)), none] pl_X10 rfl (Nat.le_of_ble_eq_true rfl) rfl ?_
  refine v_aload_n (pc := 0) (i := 0) dX10_focus_0 rfl rfl ?_
  refine s_getR (pc := 1) dX10_focus_1 flX10_35 rfl hF (fun x1 hF => ?_)
  refine s_getR (pc := 4) dX10_focus_4 flX10_240 rfl hF (fun x2 hF => ?_)
  refine v_astore_n (pc := 7) (i := 1) [some (sr (some a0)), some (sr x2)] dX10_focus_7 rfl (by decide) rfl rfl ?_
  refine v_aload_n (pc := 8) (i := 1) dX10_focus_8 rfl rfl ?_
  refine s_ifnonnull (pc := 9) 16 dX10_focus_9 rfl hF (fun hF => ?_) (fun hF => ?_)
  · refine v_aload_n (pc := 16) (i := 1) dX10_focus_16 rfl rfl ?_
    refine s_getI (pc := 17) dX10_focus_17 flX10_103 rfl hF (fun x3 hF => ?_)
    exact v_iret (pc := 20) dX10_focus_20 rfl rfl (okr hF fun q => q)
  refine v_iconst (pc := 12) (v := (-1 : Int32)) dX10_focus_12 rfl ?_
  refine v_goto (pc := 13) 20 dX10_focus_13 rfl ?_
  exact v_iret (pc := 20) dX10_focus_20 rfl rfl (okr hF fun q => q)
/-! BrailleDesk.isTyping -/
theorem tX10_isTyping {G : gG} (a0 : Nat) (h : hp) (Q : hQ) (hF : okB (fX10_isTyping a0 h) (pP gI Q h)) : gS G mX10_isTyping 0 0 0 [sr (some a0)] h Q := by
  delta fX10_isTyping at hF
  refine gS_at [some (sr (some a0))] pl_X10 rfl (Nat.le_of_ble_eq_true rfl) rfl ?_
  refine v_aload_n (pc := 0) (i := 0) dX10_isTyping_0 rfl rfl ?_
  refine s_getR (pc := 1) dX10_isTyping_1 flX10_35 rfl hF (fun x1 hF => ?_)
  refine s_getR (pc := 4) dX10_isTyping_4 flX10_243 rfl hF (fun x2 hF => ?_)
  refine s_getI (pc := 7) dX10_isTyping_7 flX10_247 rfl hF (fun x3 hF => ?_)
  exact s_zret (pc := 10) dX10_isTyping_10 rfl hF (fun hF => (okr hF fun q => q))
/-! BrailleDesk.offset -/
theorem tX10_offset {G : gG} (a0 : Nat) (h : hp) (Q : hQ) (hF : okB (fX10_offset a0 h) (pP gI Q h)) : gS G mX10_offset 0 0 0 [sr (some a0)] h Q := by
  delta fX10_offset at hF
  refine gS_at [some (sr (some a0))] pl_X10 rfl (Nat.le_of_ble_eq_true rfl) rfl ?_
  refine v_aload_n (pc := 0) (i := 0) dX10_offset_0 rfl rfl ?_
  refine s_getR (pc := 1) dX10_offset_1 flX10_35 rfl hF (fun x1 hF => ?_)
  refine s_getR (pc := 4) dX10_offset_4 flX10_252 rfl hF (fun x2 hF => ?_)
  refine s_getI (pc := 7) dX10_offset_7 flX10_256 rfl hF (fun x3 hF => ?_)
  exact v_iret (pc := 10) dX10_offset_10 rfl rfl (okr hF fun q => q)
/-! BrailleDesk.lineLength -/
theorem tX10_lineLength {G : gG} (a0 : Nat) (h : hp) (Q : hQ) (hF : okB (fX10_lineLength a0 h) (pP gI Q h)) : gS G mX10_lineLength 1 0 0 [sr (some a0)] h Q := by
  delta fX10_lineLength at hF
  refine gS_at [some (sr (some a0))] pl_X10 rfl (Nat.le_of_ble_eq_true rfl) rfl ?_
  refine v_aload_n (pc := 0) (i := 0) dX10_lineLength_0 rfl rfl ?_
  refine s_getR (pc := 1) dX10_lineLength_1 flX10_35 rfl hF (fun x1 hF => ?_)
  refine s_getR (pc := 4) dX10_lineLength_4 flX10_252 rfl hF (fun x2 hF => ?_)
  refine s_getR (pc := 7) dX10_lineLength_7 flX10_261 rfl hF (fun x3 hF => ?_)
  refine cp_V (pc := 10) gI (as := []) (st := []) (ci := 0) (N := mX1_size) (k := 0) (n := 0) (k1 := 0) (n1 := 0) dX10_lineLength_10 lkX10_59 caX1_size cvX1_size rfl (by decide) rfl (fun b Q1 hq => tX1_size b h Q1 hq) ⟨by decide, by decide⟩ (Nat.le_of_ble_eq_true rfl) rfl hF (fun x4 hF => ?_)
  show gV G mX10_lineLength 1 Q 13 [some (sr (some a0))] [si x4] (0) (0) h
  exact v_iret (pc := 13) dX10_lineLength_13 rfl rfl (okr hF fun q => q)
/-! BrailleDesk.refuseNoPin -/
theorem tX10_refuseNoPin {G : gG} (a0 : Int32) (h : hp) (Q : hQ) (hF : okB (fX10_refuseNoPin a0) (pC gU Q h)) : gS G mX10_refuseNoPin 6 1 6 [si a0] h Q := by
  delta fX10_refuseNoPin at hF
  refine gS_at [some (si a0)] pl_X10 rfl (Nat.le_of_ble_eq_true rfl) rfl ?_
  refine v_iload_n (pc := 0) (i := 0) dX10_refuseNoPin_0 rfl rfl ?_
  refine v_if_lt (pc := 1) 10 dX10_refuseNoPin_1 rfl (fun hc => ?_) (fun hc => ?_)
  · replace hF := (okB_if hF).1 hc
    exact v_throwW (pc := 10) (k := 0) (n := 0) 40 dX10_refuseNoPin_10 dX10_refuseNoPin_13 dX10_refuseNoPin_14 dX10_refuseNoPin_17 dX10_refuseNoPin_20 rfl tfit_IndexOutOfBoundsException tnames twX10_185_189 rfl (by decide) (Nat.le_of_ble_eq_true rfl) rfl (okr hF fun q => q)
  replace hF := (okB_if hF).2 hc
  refine v_iload_n (pc := 4) (i := 0) dX10_refuseNoPin_4 rfl rfl ?_
  refine v_bipush (pc := 5) (v := (10 : Int32)) dX10_refuseNoPin_5 rfl ?_
  refine v_icmp_lt (pc := 7) 21 dX10_refuseNoPin_7 rfl (fun hc => ?_) (fun hc => ?_)
  · replace hF := (okB_if hF).1 hc
    exact v_ret (pc := 21) dX10_refuseNoPin_21 rfl (okr hF fun q => q)
  replace hF := (okB_if hF).2 hc
  exact v_throwW (pc := 10) (k := 0) (n := 0) 40 dX10_refuseNoPin_10 dX10_refuseNoPin_13 dX10_refuseNoPin_14 dX10_refuseNoPin_17 dX10_refuseNoPin_20 rfl tfit_IndexOutOfBoundsException tnames twX10_185_189 rfl (by decide) (Nat.le_of_ble_eq_true rfl) rfl (okr hF fun q => q)
/-! BrailleDesk.pin -/
theorem tX10_pin {G : gG} (a0 : Nat) (a1 : Int32) (h : hp) (Q : hQ) (hF : okB (fX10_pin a0 a1 h) (pC gI Q h)) : gS G mX10_pin 7 1 6 [sr (some a0), si a1] h Q := by
  delta fX10_pin at hF
  refine gS_at [some (sr (some a0)), some (si a1)] pl_X10 rfl (Nat.le_of_ble_eq_true rfl) rfl ?_
  refine v_iload_n (pc := 0) (i := 1) dX10_pin_0 rfl rfl ?_
  refine ct_S (pc := 1) gU (as := [si a1]) (st := []) (N := mX10_refuseNoPin) (k := 0) (n := 0) (k1 := 1) (n1 := 6) dX10_pin_1 lkX10_264 caX10_refuseNoPin csX10_refuseNoPin rfl (fun Q1 hq => tX10_refuseNoPin a1 h Q1 hq) ⟨by decide, by decide⟩ (Nat.le_of_ble_eq_true rfl) rfl hF (fun E hp => hp) (fun x1 hF => ?_)
  show gV G mX10_pin 7 Q 4 [some (sr (some a0)), some (si a1)] [] (0) (0) h
  refine v_aload_n (pc := 4) (i := 0) dX10_pin_4 rfl rfl ?_
  refine s_getR (pc := 5) dX10_pin_5 flX10_35 rfl hF (fun x2 hF => ?_)
  refine s_getR (pc := 8) dX10_pin_8 flX10_252 rfl hF (fun x3 hF => ?_)
  refine v_iload_n (pc := 11) (i := 1) dX10_pin_11 rfl rfl ?_
  refine cp_V (pc := 12) gI (as := [si a1]) (st := []) (ci := 2) (N := mX3_cell) (k := 0) (n := 0) (k1 := 0) (n1 := 0) dX10_pin_12 lkX10_267 caX3_cell cvX3_cell rfl (by decide) rfl (fun b Q1 hq => tX3_cell b a1 h Q1 hq) ⟨by decide, by decide⟩ (Nat.le_of_ble_eq_true rfl) rfl hF (fun x4 hF => ?_)
  show gV G mX10_pin 7 Q 15 [some (sr (some a0)), some (si a1)] [si x4] (0) (0) h
  exact v_iret (pc := 15) dX10_pin_15 rfl rfl (okr hF fun q => q)
/-! BrailleDesk.pinAnew -/
theorem tX10_pinAnew {G : gG} (a0 : Nat) (a1 : Int32) (h : hp) (Q : hQ) (hF : okB (fX10_pinAnew a0 a1 h) (pX gI Q)) : gS G mX10_pinAnew 8 1 6 [sr (some a0), si a1] h Q := by
  delta fX10_pinAnew at hF
  refine gS_at [some (sr (some a0)), some (si a1)] pl_X10 rfl (Nat.le_of_ble_eq_true rfl) rfl ?_
  refine v_iload_n (pc := 0) (i := 1) dX10_pinAnew_0 rfl rfl ?_
  refine ct_S (pc := 1) gU (as := [si a1]) (st := []) (N := mX10_refuseNoPin) (k := 0) (n := 0) (k1 := 1) (n1 := 6) dX10_pinAnew_1 lkX10_264 caX10_refuseNoPin csX10_refuseNoPin rfl (fun Q1 hq => tX10_refuseNoPin a1 h Q1 hq) ⟨by decide, by decide⟩ (Nat.le_of_ble_eq_true rfl) rfl hF (fun E hp => hp) (fun x1 hF => ?_)
  show gV G mX10_pinAnew 8 Q 4 [some (sr (some a0)), some (si a1)] [] (0) (0) h
  refine v_aload_n (pc := 4) (i := 0) dX10_pinAnew_4 rfl rfl ?_
  refine s_getR (pc := 5) dX10_pinAnew_5 flX10_35 rfl hF (fun x2 hF => ?_)
  refine v_iload_n (pc := 8) (i := 1) dX10_pinAnew_8 rfl rfl ?_
  refine ch_V (pc := 9) gI (as := [si a1]) (st := []) (ci := 4) (N := mX5_cellAnew) (k := 0) (n := 0) (k1 := 0) (n1 := 0) dX10_pinAnew_9 lkX10_270 caX5_cellAnew cvX5_cellAnew rfl (by decide) rfl (fun b Q1 hq => tX5_cellAnew b a1 h Q1 hq) ⟨by decide, by decide⟩ (Nat.le_of_ble_eq_true rfl) rfl hF (fun x3 h4 hF => ?_)
  show gV G mX10_pinAnew 8 Q 12 [some (sr (some a0)), some (si a1)] [si x3] (0) (0) h4
  exact v_iret (pc := 12) dX10_pinAnew_12 rfl rfl (okr hF fun q => q)
