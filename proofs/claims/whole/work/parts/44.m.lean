/-! ===== methods: their functions and rows ===== -/
theorem dX11_layLine_0 : decode cX11_layLine 0 = .ok (.aload_n 0, 1) := by decide +kernel
theorem dX11_layLine_1 : decode cX11_layLine 1 = .ok (.getfield 13, 3) := by decide +kernel
theorem dX11_layLine_4 : decode cX11_layLine 4 = .ok (.aload_n 0, 1) := by decide +kernel
theorem dX11_layLine_5 : decode cX11_layLine 5 = .ok (.getfield 128, 3) := by decide +kernel
theorem dX11_layLine_8 : decode cX11_layLine 8 = .ok (.iaload, 1) := by decide +kernel
theorem dX11_layLine_9 : decode cX11_layLine 9 = .ok (.istore_n 1, 1) := by decide +kernel
theorem dX11_layLine_10 : decode cX11_layLine 10 = .ok (.aload_n 0, 1) := by decide +kernel
theorem dX11_layLine_11 : decode cX11_layLine 11 = .ok (.iconst 0, 1) := by decide +kernel
theorem dX11_layLine_12 : decode cX11_layLine 12 = .ok (.putfield 236, 3) := by decide +kernel
theorem dX11_layLine_15 : decode cX11_layLine 15 = .ok (.aload_n 0, 1) := by decide +kernel
theorem dX11_layLine_16 : decode cX11_layLine 16 = .ok (.aload_n 0, 1) := by decide +kernel
theorem dX11_layLine_17 : decode cX11_layLine 17 = .ok (.getfield 128, 3) := by decide +kernel
theorem dX11_layLine_20 : decode cX11_layLine 20 = .ok (.invokevirtual 164, 3) := by decide +kernel
theorem dX11_layLine_23 : decode cX11_layLine 23 = .ok (.ifCond .eq 24, 3) := by decide +kernel
theorem dX11_layLine_26 : decode cX11_layLine 26 = .ok (.iload_n 1, 1) := by decide +kernel
theorem dX11_layLine_27 : decode cX11_layLine 27 = .ok (.iconst 1, 1) := by decide +kernel
theorem dX11_layLine_28 : decode cX11_layLine 28 = .ok (.if_icmp .eq 19, 3) := by decide +kernel
theorem dX11_layLine_31 : decode cX11_layLine 31 = .ok (.aload_n 0, 1) := by decide +kernel
theorem dX11_layLine_32 : decode cX11_layLine 32 = .ok (.aload_n 0, 1) := by decide +kernel
theorem dX11_layLine_33 : decode cX11_layLine 33 = .ok (.iload_n 1, 1) := by decide +kernel
theorem dX11_layLine_34 : decode cX11_layLine 34 = .ok (.invokestatic 261, 3) := by decide +kernel
theorem dX11_layLine_37 : decode cX11_layLine 37 = .ok (.invokevirtual 248, 3) := by decide +kernel
theorem dX11_layLine_40 : decode cX11_layLine 40 = .ok (.sipush 192, 3) := by decide +kernel
theorem dX11_layLine_43 : decode cX11_layLine 43 = .ok (.iadd, 1) := by decide +kernel
theorem dX11_layLine_44 : decode cX11_layLine 44 = .ok (.invokevirtual 245, 3) := by decide +kernel
theorem dX11_layLine_47 : decode cX11_layLine 47 = .ok (.aload_n 0, 1) := by decide +kernel
theorem dX11_layLine_48 : decode cX11_layLine 48 = .ok (.aload_n 0, 1) := by decide +kernel
theorem dX11_layLine_49 : decode cX11_layLine 49 = .ok (.getfield 26, 3) := by decide +kernel
theorem dX11_layLine_52 : decode cX11_layLine 52 = .ok (.bipush 12, 2) := by decide +kernel
theorem dX11_layLine_54 : decode cX11_layLine 54 = .ok (.aload_n 0, 1) := by decide +kernel
theorem dX11_layLine_55 : decode cX11_layLine 55 = .ok (.getfield 128, 3) := by decide +kernel
theorem dX11_layLine_58 : decode cX11_layLine 58 = .ok (.imul, 1) := by decide +kernel
theorem dX11_layLine_59 : decode cX11_layLine 59 = .ok (.aload_n 0, 1) := by decide +kernel
theorem dX11_layLine_60 : decode cX11_layLine 60 = .ok (.getfield 29, 3) := by decide +kernel
theorem dX11_layLine_63 : decode cX11_layLine 63 = .ok (.aload_n 0, 1) := by decide +kernel
theorem dX11_layLine_64 : decode cX11_layLine 64 = .ok (.getfield 128, 3) := by decide +kernel
theorem dX11_layLine_67 : decode cX11_layLine 67 = .ok (.iaload, 1) := by decide +kernel
theorem dX11_layLine_68 : decode cX11_layLine 68 = .ok (.invokevirtual 264, 3) := by decide +kernel
theorem dX11_layLine_71 : decode cX11_layLine 71 = .ok (.iload_n 1, 1) := by decide +kernel
theorem dX11_layLine_72 : decode cX11_layLine 72 = .ok (.iconst 3, 1) := by decide +kernel
theorem dX11_layLine_73 : decode cX11_layLine 73 = .ok (.if_icmp .ne 31, 3) := by decide +kernel
theorem dX11_layLine_76 : decode cX11_layLine 76 = .ok (.aload_n 0, 1) := by decide +kernel
theorem dX11_layLine_77 : decode cX11_layLine 77 = .ok (.iconst 0, 1) := by decide +kernel
theorem dX11_layLine_78 : decode cX11_layLine 78 = .ok (.invokevirtual 245, 3) := by decide +kernel
theorem dX11_layLine_81 : decode cX11_layLine 81 = .ok (.aload_n 0, 1) := by decide +kernel
theorem dX11_layLine_82 : decode cX11_layLine 82 = .ok (.aload_n 0, 1) := by decide +kernel
theorem dX11_layLine_83 : decode cX11_layLine 83 = .ok (.getfield 38, 3) := by decide +kernel
theorem dX11_layLine_86 : decode cX11_layLine 86 = .ok (.aload_n 0, 1) := by decide +kernel
theorem dX11_layLine_87 : decode cX11_layLine 87 = .ok (.getfield 128, 3) := by decide +kernel
theorem dX11_layLine_90 : decode cX11_layLine 90 = .ok (.baload, 1) := by decide +kernel
theorem dX11_layLine_91 : decode cX11_layLine 91 = .ok (.ifCond .eq 8, 3) := by decide +kernel
theorem dX11_layLine_94 : decode cX11_layLine 94 = .ok (.bipush 63, 2) := by decide +kernel
theorem dX11_layLine_96 : decode cX11_layLine 96 = .ok (.goto 5, 3) := by decide +kernel
theorem dX11_layLine_99 : decode cX11_layLine 99 = .ok (.bipush 36, 2) := by decide +kernel
theorem dX11_layLine_101 : decode cX11_layLine 101 = .ok (.invokevirtual 245, 3) := by decide +kernel
theorem dX11_layLine_104 : decode cX11_layLine 104 = .ok (.aload_n 0, 1) := by decide +kernel
theorem dX11_layLine_105 : decode cX11_layLine 105 = .ok (.getfield 35, 3) := by decide +kernel
theorem dX11_layLine_108 : decode cX11_layLine 108 = .ok (.aload_n 0, 1) := by decide +kernel
theorem dX11_layLine_109 : decode cX11_layLine 109 = .ok (.getfield 128, 3) := by decide +kernel
theorem dX11_layLine_112 : decode cX11_layLine 112 = .ok (.iaload, 1) := by decide +kernel
theorem dX11_layLine_113 : decode cX11_layLine 113 = .ok (.ifCond .le 32, 3) := by decide +kernel
theorem dX11_layLine_116 : decode cX11_layLine 116 = .ok (.aload_n 0, 1) := by decide +kernel
theorem dX11_layLine_117 : decode cX11_layLine 117 = .ok (.iconst 0, 1) := by decide +kernel
theorem dX11_layLine_118 : decode cX11_layLine 118 = .ok (.invokevirtual 245, 3) := by decide +kernel
theorem dX11_layLine_121 : decode cX11_layLine 121 = .ok (.aload_n 0, 1) := by decide +kernel
theorem dX11_layLine_122 : decode cX11_layLine 122 = .ok (.aload_n 0, 1) := by decide +kernel
theorem dX11_layLine_123 : decode cX11_layLine 123 = .ok (.getfield 32, 3) := by decide +kernel
theorem dX11_layLine_126 : decode cX11_layLine 126 = .ok (.bipush 12, 2) := by decide +kernel
theorem dX11_layLine_128 : decode cX11_layLine 128 = .ok (.aload_n 0, 1) := by decide +kernel
theorem dX11_layLine_129 : decode cX11_layLine 129 = .ok (.getfield 128, 3) := by decide +kernel
theorem dX11_layLine_132 : decode cX11_layLine 132 = .ok (.imul, 1) := by decide +kernel
theorem dX11_layLine_133 : decode cX11_layLine 133 = .ok (.aload_n 0, 1) := by decide +kernel
theorem dX11_layLine_134 : decode cX11_layLine 134 = .ok (.getfield 35, 3) := by decide +kernel
theorem dX11_layLine_137 : decode cX11_layLine 137 = .ok (.aload_n 0, 1) := by decide +kernel
theorem dX11_layLine_138 : decode cX11_layLine 138 = .ok (.getfield 128, 3) := by decide +kernel
theorem dX11_layLine_141 : decode cX11_layLine 141 = .ok (.iaload, 1) := by decide +kernel
theorem dX11_layLine_142 : decode cX11_layLine 142 = .ok (.invokevirtual 264, 3) := by decide +kernel
theorem dX11_layLine_145 : decode cX11_layLine 145 = .ok (.aload_n 0, 1) := by decide +kernel
theorem dX11_layLine_146 : decode cX11_layLine 146 = .ok (.getfield 267, 3) := by decide +kernel
theorem dX11_layLine_149 : decode cX11_layLine 149 = .ok (.ifCond .eq 10, 3) := by decide +kernel
theorem dX11_layLine_152 : decode cX11_layLine 152 = .ok (.aload_n 0, 1) := by decide +kernel
theorem dX11_layLine_153 : decode cX11_layLine 153 = .ok (.sipush 192, 3) := by decide +kernel
theorem dX11_layLine_156 : decode cX11_layLine 156 = .ok (.invokevirtual 245, 3) := by decide +kernel
theorem dX11_layLine_159 : decode cX11_layLine 159 = .ok (.return_, 1) := by decide +kernel
theorem dX11_fitOffset_0 : decode cX11_fitOffset 0 = .ok (.aload_n 0, 1) := by decide +kernel
theorem dX11_fitOffset_1 : decode cX11_fitOffset 1 = .ok (.invokevirtual 271, 3) := by decide +kernel
theorem dX11_fitOffset_4 : decode cX11_fitOffset 4 = .ok (.aload_n 0, 1) := by decide +kernel
theorem dX11_fitOffset_5 : decode cX11_fitOffset 5 = .ok (.getfield 274, 3) := by decide +kernel
theorem dX11_fitOffset_8 : decode cX11_fitOffset 8 = .ok (.ifCond .le 41, 3) := by decide +kernel
theorem dX11_fitOffset_11 : decode cX11_fitOffset 11 = .ok (.aload_n 0, 1) := by decide +kernel
theorem dX11_fitOffset_12 : decode cX11_fitOffset 12 = .ok (.getfield 274, 3) := by decide +kernel
theorem dX11_fitOffset_15 : decode cX11_fitOffset 15 = .ok (.aload_n 0, 1) := by decide +kernel
theorem dX11_fitOffset_16 : decode cX11_fitOffset 16 = .ok (.getfield 236, 3) := by decide +kernel
theorem dX11_fitOffset_19 : decode cX11_fitOffset 19 = .ok (.if_icmp .lt 30, 3) := by decide +kernel
theorem dX11_fitOffset_22 : decode cX11_fitOffset 22 = .ok (.aload_n 0, 1) := by decide +kernel
theorem dX11_fitOffset_23 : decode cX11_fitOffset 23 = .ok (.aload_n 0, 1) := by decide +kernel
theorem dX11_fitOffset_24 : decode cX11_fitOffset 24 = .ok (.getfield 236, 3) := by decide +kernel
theorem dX11_fitOffset_27 : decode cX11_fitOffset 27 = .ok (.ifCond .ne 7, 3) := by decide +kernel
theorem dX11_fitOffset_30 : decode cX11_fitOffset 30 = .ok (.iconst 0, 1) := by decide +kernel
theorem dX11_fitOffset_31 : decode cX11_fitOffset 31 = .ok (.goto 15, 3) := by decide +kernel
theorem dX11_fitOffset_34 : decode cX11_fitOffset 34 = .ok (.aload_n 0, 1) := by decide +kernel
theorem dX11_fitOffset_35 : decode cX11_fitOffset 35 = .ok (.getfield 236, 3) := by decide +kernel
theorem dX11_fitOffset_38 : decode cX11_fitOffset 38 = .ok (.iconst 1, 1) := by decide +kernel
theorem dX11_fitOffset_39 : decode cX11_fitOffset 39 = .ok (.isub, 1) := by decide +kernel
theorem dX11_fitOffset_40 : decode cX11_fitOffset 40 = .ok (.bipush 10, 2) := by decide +kernel
theorem dX11_fitOffset_42 : decode cX11_fitOffset 42 = .ok (.idiv, 1) := by decide +kernel
theorem dX11_fitOffset_43 : decode cX11_fitOffset 43 = .ok (.bipush 10, 2) := by decide +kernel
theorem dX11_fitOffset_45 : decode cX11_fitOffset 45 = .ok (.imul, 1) := by decide +kernel
theorem dX11_fitOffset_46 : decode cX11_fitOffset 46 = .ok (.putfield 274, 3) := by decide +kernel
theorem dX11_fitOffset_49 : decode cX11_fitOffset 49 = .ok (.return_, 1) := by decide +kernel
theorem dX11_isCharacter_0 : decode cX11_isCharacter 0 = .ok (.iload_n 0, 1) := by decide +kernel
theorem dX11_isCharacter_1 : decode cX11_isCharacter 1 = .ok (.bipush 32, 2) := by decide +kernel
theorem dX11_isCharacter_3 : decode cX11_isCharacter 3 = .ok (.bipush 126, 2) := by decide +kernel
theorem dX11_isCharacter_5 : decode cX11_isCharacter 5 = .ok (.invokestatic 114, 3) := by decide +kernel
theorem dX11_isCharacter_8 : decode cX11_isCharacter 8 = .ok (.ifCond .ne 16, 3) := by decide +kernel
theorem dX11_isCharacter_11 : decode cX11_isCharacter 11 = .ok (.iload_n 0, 1) := by decide +kernel
theorem dX11_isCharacter_12 : decode cX11_isCharacter 12 = .ok (.ldc_w 277, 3) := by decide +kernel
theorem dX11_isCharacter_15 : decode cX11_isCharacter 15 = .ok (.ldc_w 278, 3) := by decide +kernel
theorem dX11_isCharacter_18 : decode cX11_isCharacter 18 = .ok (.invokestatic 114, 3) := by decide +kernel
theorem dX11_isCharacter_21 : decode cX11_isCharacter 21 = .ok (.ifCond .eq 7, 3) := by decide +kernel
theorem dX11_isCharacter_24 : decode cX11_isCharacter 24 = .ok (.iconst 1, 1) := by decide +kernel
theorem dX11_isCharacter_25 : decode cX11_isCharacter 25 = .ok (.goto 4, 3) := by decide +kernel
theorem dX11_isCharacter_28 : decode cX11_isCharacter 28 = .ok (.iconst 0, 1) := by decide +kernel
theorem dX11_isCharacter_29 : decode cX11_isCharacter 29 = .ok (.ireturn, 1) := by decide +kernel
theorem dX11_draft_0 : decode cX11_draft 0 = .ok (.aload_n 0, 1) := by decide +kernel
theorem dX11_draft_1 : decode cX11_draft 1 = .ok (.iload_n 1, 1) := by decide +kernel
theorem dX11_draft_2 : decode cX11_draft 2 = .ok (.invokestatic 279, 3) := by decide +kernel
theorem dX11_draft_5 : decode cX11_draft 5 = .ok (.ifCond .ne 7, 3) := by decide +kernel
theorem dX11_draft_8 : decode cX11_draft 8 = .ok (.iconst 1, 1) := by decide +kernel
theorem dX11_draft_9 : decode cX11_draft 9 = .ok (.goto 17, 3) := by decide +kernel
theorem dX11_draft_12 : decode cX11_draft 12 = .ok (.aload_n 0, 1) := by decide +kernel
theorem dX11_draft_13 : decode cX11_draft 13 = .ok (.getfield 282, 3) := by decide +kernel
theorem dX11_draft_16 : decode cX11_draft 16 = .ok (.bipush 12, 2) := by decide +kernel
theorem dX11_draft_18 : decode cX11_draft 18 = .ok (.if_icmp .ne 7, 3) := by decide +kernel
theorem dX11_draft_21 : decode cX11_draft 21 = .ok (.iconst 2, 1) := by decide +kernel
theorem dX11_draft_22 : decode cX11_draft 22 = .ok (.goto 4, 3) := by decide +kernel
theorem dX11_draft_25 : decode cX11_draft 25 = .ok (.iconst 0, 1) := by decide +kernel
theorem dX11_draft_26 : decode cX11_draft 26 = .ok (.putfield 111, 3) := by decide +kernel
theorem dX11_draft_29 : decode cX11_draft 29 = .ok (.aload_n 0, 1) := by decide +kernel
theorem dX11_draft_30 : decode cX11_draft 30 = .ok (.getfield 111, 3) := by decide +kernel
theorem dX11_draft_33 : decode cX11_draft 33 = .ok (.ifCond .le 5, 3) := by decide +kernel
theorem dX11_draft_36 : decode cX11_draft 36 = .ok (.iconst 0, 1) := by decide +kernel
theorem dX11_draft_37 : decode cX11_draft 37 = .ok (.ireturn, 1) := by decide +kernel
theorem dX11_draft_38 : decode cX11_draft 38 = .ok (.aload_n 0, 1) := by decide +kernel
theorem dX11_draft_39 : decode cX11_draft 39 = .ok (.getfield 62, 3) := by decide +kernel
theorem dX11_draft_42 : decode cX11_draft 42 = .ok (.aload_n 0, 1) := by decide +kernel
theorem dX11_draft_43 : decode cX11_draft 43 = .ok (.getfield 282, 3) := by decide +kernel
theorem dX11_draft_46 : decode cX11_draft 46 = .ok (.iload_n 1, 1) := by decide +kernel
theorem dX11_draft_47 : decode cX11_draft 47 = .ok (.iastore, 1) := by decide +kernel
theorem dX11_draft_48 : decode cX11_draft 48 = .ok (.aload_n 0, 1) := by decide +kernel
theorem dX11_draft_49 : decode cX11_draft 49 = .ok (.dup, 1) := by decide +kernel
theorem dX11_draft_50 : decode cX11_draft 50 = .ok (.getfield 282, 3) := by decide +kernel
theorem dX11_draft_53 : decode cX11_draft 53 = .ok (.iconst 1, 1) := by decide +kernel
theorem dX11_draft_54 : decode cX11_draft 54 = .ok (.iadd, 1) := by decide +kernel
theorem dX11_draft_55 : decode cX11_draft 55 = .ok (.putfield 282, 3) := by decide +kernel
theorem dX11_draft_58 : decode cX11_draft 58 = .ok (.aload_n 0, 1) := by decide +kernel
theorem dX11_draft_59 : decode cX11_draft 59 = .ok (.getfield 282, 3) := by decide +kernel
theorem dX11_draft_62 : decode cX11_draft 62 = .ok (.ireturn, 1) := by decide +kernel
theorem dX11_canHave_0 : decode cX11_canHave 0 = .ok (.iload_n 0, 1) := by decide +kernel
theorem dX11_canHave_1 : decode cX11_canHave 1 = .ok (.ifCond .eq 9, 3) := by decide +kernel
theorem dX11_canHave_4 : decode cX11_canHave 4 = .ok (.iload_n 0, 1) := by decide +kernel
theorem dX11_canHave_5 : decode cX11_canHave 5 = .ok (.bipush 7, 2) := by decide +kernel
theorem dX11_canHave_7 : decode cX11_canHave 7 = .ok (.if_icmp .ne 15, 3) := by decide +kernel
theorem dX11_canHave_10 : decode cX11_canHave 10 = .ok (.iload_n 1, 1) := by decide +kernel
theorem dX11_canHave_11 : decode cX11_canHave 11 = .ok (.bipush 6, 2) := by decide +kernel
theorem dX11_canHave_13 : decode cX11_canHave 13 = .ok (.if_icmp .eq 7, 3) := by decide +kernel
theorem dX11_canHave_16 : decode cX11_canHave 16 = .ok (.iconst 1, 1) := by decide +kernel
theorem dX11_canHave_17 : decode cX11_canHave 17 = .ok (.goto 4, 3) := by decide +kernel
theorem dX11_canHave_20 : decode cX11_canHave 20 = .ok (.iconst 0, 1) := by decide +kernel
theorem dX11_canHave_21 : decode cX11_canHave 21 = .ok (.ireturn, 1) := by decide +kernel
theorem dX11_canHave_22 : decode cX11_canHave 22 = .ok (.iload_n 0, 1) := by decide +kernel
theorem dX11_canHave_23 : decode cX11_canHave 23 = .ok (.iconst 5, 1) := by decide +kernel
theorem dX11_canHave_24 : decode cX11_canHave 24 = .ok (.if_icmp .ne 17, 3) := by decide +kernel
theorem dX11_canHave_27 : decode cX11_canHave 27 = .ok (.iload_n 1, 1) := by decide +kernel
theorem dX11_canHave_28 : decode cX11_canHave 28 = .ok (.bipush 6, 2) := by decide +kernel
theorem dX11_canHave_30 : decode cX11_canHave 30 = .ok (.if_icmp .ne 7, 3) := by decide +kernel
theorem dX11_canHave_33 : decode cX11_canHave 33 = .ok (.iconst 1, 1) := by decide +kernel
theorem dX11_canHave_34 : decode cX11_canHave 34 = .ok (.goto 27, 3) := by decide +kernel
theorem dX11_canHave_37 : decode cX11_canHave 37 = .ok (.iconst 0, 1) := by decide +kernel
theorem dX11_canHave_38 : decode cX11_canHave 38 = .ok (.goto 23, 3) := by decide +kernel
theorem dX11_canHave_41 : decode cX11_canHave 41 = .ok (.iload_n 0, 1) := by decide +kernel
theorem dX11_canHave_42 : decode cX11_canHave 42 = .ok (.bipush 6, 2) := by decide +kernel
theorem dX11_canHave_44 : decode cX11_canHave 44 = .ok (.if_icmp .ne 16, 3) := by decide +kernel
theorem dX11_canHave_47 : decode cX11_canHave 47 = .ok (.iload_n 1, 1) := by decide +kernel
theorem dX11_canHave_48 : decode cX11_canHave 48 = .ok (.iconst 1, 1) := by decide +kernel
theorem dX11_canHave_49 : decode cX11_canHave 49 = .ok (.iconst 4, 1) := by decide +kernel
theorem dX11_canHave_50 : decode cX11_canHave 50 = .ok (.invokestatic 114, 3) := by decide +kernel
theorem dX11_canHave_53 : decode cX11_canHave 53 = .ok (.ifCond .eq 7, 3) := by decide +kernel
theorem dX11_canHave_56 : decode cX11_canHave 56 = .ok (.iconst 1, 1) := by decide +kernel
theorem dX11_canHave_57 : decode cX11_canHave 57 = .ok (.goto 4, 3) := by decide +kernel
theorem dX11_canHave_60 : decode cX11_canHave 60 = .ok (.iconst 0, 1) := by decide +kernel
theorem dX11_canHave_61 : decode cX11_canHave 61 = .ok (.ireturn, 1) := by decide +kernel
theorem dX11_takeDraft_0 : decode cX11_takeDraft 0 = .ok (.aload_n 0, 1) := by decide +kernel
theorem dX11_takeDraft_1 : decode cX11_takeDraft 1 = .ok (.getfield 62, 3) := by decide +kernel
theorem dX11_takeDraft_4 : decode cX11_takeDraft 4 = .ok (.iconst 0, 1) := by decide +kernel
theorem dX11_takeDraft_5 : decode cX11_takeDraft 5 = .ok (.aload_n 0, 1) := by decide +kernel
theorem dX11_takeDraft_6 : decode cX11_takeDraft 6 = .ok (.getfield 26, 3) := by decide +kernel
theorem dX11_takeDraft_9 : decode cX11_takeDraft 9 = .ok (.bipush 12, 2) := by decide +kernel
theorem dX11_takeDraft_11 : decode cX11_takeDraft 11 = .ok (.iload_n 1, 1) := by decide +kernel
theorem dX11_takeDraft_12 : decode cX11_takeDraft 12 = .ok (.imul, 1) := by decide +kernel
theorem dX11_takeDraft_13 : decode cX11_takeDraft 13 = .ok (.aload_n 0, 1) := by decide +kernel
theorem dX11_takeDraft_14 : decode cX11_takeDraft 14 = .ok (.getfield 282, 3) := by decide +kernel
theorem dX11_takeDraft_17 : decode cX11_takeDraft 17 = .ok (.invokestatic 181, 3) := by decide +kernel
theorem dX11_takeDraft_20 : decode cX11_takeDraft 20 = .ok (.aload_n 0, 1) := by decide +kernel
theorem dX11_takeDraft_21 : decode cX11_takeDraft 21 = .ok (.getfield 29, 3) := by decide +kernel
theorem dX11_takeDraft_24 : decode cX11_takeDraft 24 = .ok (.iload_n 1, 1) := by decide +kernel
theorem dX11_takeDraft_25 : decode cX11_takeDraft 25 = .ok (.aload_n 0, 1) := by decide +kernel
theorem dX11_takeDraft_26 : decode cX11_takeDraft 26 = .ok (.getfield 282, 3) := by decide +kernel
theorem dX11_takeDraft_29 : decode cX11_takeDraft 29 = .ok (.iastore, 1) := by decide +kernel
theorem dX11_takeDraft_30 : decode cX11_takeDraft 30 = .ok (.aload_n 0, 1) := by decide +kernel
theorem dX11_takeDraft_31 : decode cX11_takeDraft 31 = .ok (.iconst 0, 1) := by decide +kernel
theorem dX11_takeDraft_32 : decode cX11_takeDraft 32 = .ok (.putfield 282, 3) := by decide +kernel
theorem dX11_takeDraft_35 : decode cX11_takeDraft 35 = .ok (.return_, 1) := by decide +kernel
abbrev mX11_layLine : gM := (yX11_layLine, cX11_layLine, 2, (Option.none : Option FieldType), [])
theorem caX11_layLine : cal mX11_layLine 0 := ⟨xw 1686 (by decide +kernel) rfl, xw 102 (by decide +kernel) rfl, by decide, by decide +kernel⟩
theorem cvX11_layLine : calV mX11_layLine := ⟨xw 1685 (by decide +kernel) rfl, xw 50 (by decide +kernel) rfl⟩
abbrev mX11_fitOffset : gM := (yX11_fitOffset, cX11_fitOffset, 1, (Option.none : Option FieldType), [])
theorem caX11_fitOffset : cal mX11_fitOffset 0 := ⟨xw 1682 (by decide +kernel) rfl, xw 102 (by decide +kernel) rfl, by decide, by decide +kernel⟩
theorem cvX11_fitOffset : calV mX11_fitOffset := ⟨xw 1681 (by decide +kernel) rfl, xw 49 (by decide +kernel) rfl⟩
abbrev mX11_isCharacter : gM := (yX11_isCharacter, cX11_isCharacter, 1, (Option.some FieldType.boolean), [])
theorem caX11_isCharacter : cal mX11_isCharacter 1 := ⟨xw 1571 (by decide +kernel) rfl, xw 102 (by decide +kernel) rfl, by decide, by decide +kernel⟩
theorem csX11_isCharacter : Cond.static yX11_isCharacter ∈ XW := xw 1570 (by decide +kernel) rfl
abbrev mX11_draft : gM := (yX11_draft, cX11_draft, 2, (Option.some FieldType.int), [])
theorem caX11_draft : cal mX11_draft 1 := ⟨xw 1568 (by decide +kernel) rfl, xw 102 (by decide +kernel) rfl, by decide, by decide +kernel⟩
theorem cvX11_draft : calV mX11_draft := ⟨xw 1566 (by decide +kernel) rfl, xw 1567 (by decide +kernel) rfl⟩
abbrev mX11_canHave : gM := (yX11_canHave, cX11_canHave, 2, (Option.some FieldType.boolean), [])
theorem caX11_canHave : cal mX11_canHave 2 := ⟨xw 1587 (by decide +kernel) rfl, xw 102 (by decide +kernel) rfl, by decide, by decide +kernel⟩
theorem csX11_canHave : Cond.static yX11_canHave ∈ XW := xw 1586 (by decide +kernel) rfl
abbrev mX11_takeDraft : gM := (yX11_takeDraft, cX11_takeDraft, 2, (Option.none : Option FieldType), [])
theorem caX11_takeDraft : cal mX11_takeDraft 1 := ⟨xw 1591 (by decide +kernel) rfl, xw 102 (by decide +kernel) rfl, by decide, by decide +kernel⟩
theorem cvX11_takeDraft : calV mX11_takeDraft := ⟨xw 1590 (by decide +kernel) rfl, xw 29 (by decide +kernel) rfl⟩
theorem lkX11_261 : Cond.methodLink RX11 261 yX11_kindLetter ∈ XW := xw 1687 (by decide +kernel) rfl
theorem lkX11_264 : Cond.methodLink RX11 264 yX11_write ∈ XW := xw 1698 (by decide +kernel) rfl
theorem flX11_267 : fl RX11 267 10 22 := ⟨by decide, by decide, xw 1419 (by decide +kernel) rfl⟩
theorem lkX11_271 : Cond.methodLink RX11 271 yX11_layLine ∈ XW := xw 1683 (by decide +kernel) rfl
theorem flX11_274 : fl RX11 274 10 25 := ⟨by decide, by decide, xw 1422 (by decide +kernel) rfl⟩
theorem ctX11_277 : Cond.constant RX11 277 (119040 : Int32) ∈ XW := xw 1575 (by decide +kernel) rfl
theorem ctX11_278 : Cond.constant RX11 278 (119295 : Int32) ∈ XW := xw 1576 (by decide +kernel) rfl
theorem lkX11_279 : Cond.methodLink RX11 279 yX11_isCharacter ∈ XW := xw 1569 (by decide +kernel) rfl
theorem flX11_282 : fl RX11 282 10 19 := ⟨by decide, by decide, xw 1416 (by decide +kernel) rfl⟩
/-! BrailleDeskModel.layLine -/
def fX11_layLine (a0 : Nat) (h : hp) : Option (Unit × hp) :=
  (oGR 10 2 (some a0) h).bind fun x1 =>
  (oGI 10 20 (some a0) h).bind fun x2 =>
  (oIL x1 x2 h).bind fun x3 =>
  (oPI 10 53 (some a0) (0 : Int32) h).bind fun h4 =>
  (oGI 10 20 (some a0) h4).bind fun x5 =>
  (oOb 10 (some a0) h4).bind fun b =>
  (fX11_levelOf b x5 h4).bind fun x6 =>
  Option.bind (α := hp)
  (if x6 = 0 then
  (some h4)
  else
  if x3 = (1 : Int32) then
  (some h4)
  else
  (fX11_kindLetter x3).bind fun x9 =>
  (oOb 10 (some a0) h4).bind fun b =>
  (fX11_points b x9 h4).bind fun x10 =>
  (oOb 10 (some a0) h4).bind fun b =>
  o2 (fX11_cell b (x10 + (192 : Int32)) h4) fun _ h12 =>
  some h12)
  fun q7 =>
  (oGR 10 6 (some a0) q7).bind fun x13 =>
  (oGI 10 20 (some a0) q7).bind fun x14 =>
  (oGR 10 7 (some a0) q7).bind fun x15 =>
  (oGI 10 20 (some a0) q7).bind fun x16 =>
  (oIL x15 x16 q7).bind fun x17 =>
  (oOb 10 (some a0) q7).bind fun b =>
  o2 (fX11_write b x13 ((12 : Int32) * x14) x17 q7) fun _ h19 =>
  Option.bind (α := hp)
  (if x3 = (3 : Int32) then
  ((oOb 10 (some a0) h19).bind fun b =>
  o2 (fX11_cell b (0 : Int32) h19) fun _ h23 =>
  (oGR 10 10 (some a0) h23).bind fun x24 =>
  (oGI 10 20 (some a0) h23).bind fun x25 =>
  (oZL x24 x25 h23).bind fun x26 =>
  if x26 = 0 then
  ((oOb 10 (some a0) h23).bind fun b =>
  o2 (fX11_cell b (36 : Int32) h23) fun _ h28 =>
  some h28)
  else
  (oOb 10 (some a0) h23).bind fun b =>
  o2 (fX11_cell b (63 : Int32) h23) fun _ h30 =>
  some h30)
  else
  some h19)
  fun q20 =>
  (oGR 10 9 (some a0) q20).bind fun x31 =>
  (oGI 10 20 (some a0) q20).bind fun x32 =>
  (oIL x31 x32 q20).bind fun x33 =>
  Option.bind (α := hp)
  (if x33 ≤ 0 then
  (some q20)
  else
  (oOb 10 (some a0) q20).bind fun b =>
  o2 (fX11_cell b (0 : Int32) q20) fun _ h37 =>
  (oGR 10 8 (some a0) h37).bind fun x38 =>
  (oGI 10 20 (some a0) h37).bind fun x39 =>
  (oGR 10 9 (some a0) h37).bind fun x40 =>
  (oGI 10 20 (some a0) h37).bind fun x41 =>
  (oIL x40 x41 h37).bind fun x42 =>
  (oOb 10 (some a0) h37).bind fun b =>
  o2 (fX11_write b x38 ((12 : Int32) * x39) x42 h37) fun _ h44 =>
  some h44)
  fun q34 =>
  (oGI 10 22 (some a0) q34).bind fun x45 =>
  if x45 = 0 then
  (some (((), q34)))
  else
  (oOb 10 (some a0) q34).bind fun b =>
  o2 (fX11_cell b (192 : Int32) q34) fun _ h47 =>
  some (((), h47))
theorem tX11_layLine {G : gG} (a0 : Nat) (h : hp) (Q : hQ) (hF : okB (fX11_layLine a0 h) (pH gU Q)) : gS G mX11_layLine 4 0 0 [sr (some a0)] h Q := by
  delta fX11_layLine at hF
  refine gS_at [some (sr (some a0)), none] pl_X11 rfl (Nat.le_of_ble_eq_true rfl) rfl ?_
  refine v_aload_n (pc := 0) (i := 0) dX11_layLine_0 rfl rfl ?_
  refine s_getR (pc := 1) dX11_layLine_1 flX11_13 rfl hF (fun x1 hF => ?_)
  refine v_aload_n (pc := 4) (i := 0) dX11_layLine_4 rfl rfl ?_
  refine s_getI (pc := 5) dX11_layLine_5 flX11_128 rfl hF (fun x2 hF => ?_)
  refine s_iald (pc := 8) dX11_layLine_8 hF (fun x3 hF => ?_)
  refine v_istore_n (pc := 9) (i := 1) [some (sr (some a0)), some (si x3)] dX11_layLine_9 rfl (by decide) rfl rfl ?_
  refine v_aload_n (pc := 10) (i := 0) dX11_layLine_10 rfl rfl ?_
  refine v_iconst (pc := 11) (v := (0 : Int32)) dX11_layLine_11 rfl ?_
  refine s_putI (pc := 12) dX11_layLine_12 flX11_236 (Or.inl rfl) rfl hF (fun h4 hF => ?_)
  refine v_aload_n (pc := 15) (i := 0) dX11_layLine_15 rfl rfl ?_
  refine v_aload_n (pc := 16) (i := 0) dX11_layLine_16 rfl rfl ?_
  refine s_getI (pc := 17) dX11_layLine_17 flX11_128 rfl hF (fun x5 hF => ?_)
  refine cp_V (pc := 20) gI (as := [si x5]) (st := []) (ci := 10) (k := 0) (n := 0) dX11_layLine_20 lkX11_164 caX11_levelOf cvX11_levelOf rfl (by decide) rfl (fun b Q1 hq => tX11_levelOf b x5 h4 Q1 hq) ⟨by decide, by decide⟩ (Nat.le_of_ble_eq_true rfl) rfl hF (fun x6 hF => ?_)
  show gV G mX11_layLine 4 Q 23 [some (sr (some a0)), some (si x3)] [si x6] (0) (0) h4
  refine mg (X := fun q7 => gV G mX11_layLine 4 Q 47 [some (sr (some a0)), some (si x3)] [] (0) (0) q7) hF (fun _ hj8 hF => ?_) (fun q7 hF => ?_)
  · refine v_if_eq (pc := 23) 47 dX11_layLine_23 rfl (fun hc => ?_) (fun hc => ?_)
    · replace hF := (okB_if hF).1 hc
      exact v_lle [some (sr (some a0)), some (si x3)] ⟨rfl, rfl, trivial⟩ (hj8 _ (okB_some hF))
    replace hF := (okB_if hF).2 hc
    refine v_iload_n (pc := 26) (i := 1) dX11_layLine_26 rfl rfl ?_
    refine v_iconst (pc := 27) (v := (1 : Int32)) dX11_layLine_27 rfl ?_
    refine v_icmp_eq (pc := 28) 47 dX11_layLine_28 rfl (fun hc => ?_) (fun hc => ?_)
    · replace hF := (okB_if hF).1 hc
      exact v_lle [some (sr (some a0)), some (si x3)] ⟨rfl, rfl, trivial⟩ (hj8 _ (okB_some hF))
    replace hF := (okB_if hF).2 hc
    refine v_aload_n (pc := 31) (i := 0) dX11_layLine_31 rfl rfl ?_
    refine v_aload_n (pc := 32) (i := 0) dX11_layLine_32 rfl rfl ?_
    refine v_iload_n (pc := 33) (i := 1) dX11_layLine_33 rfl rfl ?_
    refine cp_S (pc := 34) gI (as := [si x3]) (st := [sr (some a0), sr (some a0)]) (k := 0) (n := 0) dX11_layLine_34 lkX11_261 caX11_kindLetter csX11_kindLetter rfl (fun Q1 hq => tX11_kindLetter x3 h4 Q1 hq) ⟨by decide, by decide⟩ (Nat.le_of_ble_eq_true rfl) rfl hF (fun x9 hF => ?_)
    show gV G mX11_layLine 4 Q 37 [some (sr (some a0)), some (si x3)] [si x9, sr (some a0), sr (some a0)] (0) (0) h4
    refine cp_V (pc := 37) gI (as := [si x9]) (st := [sr (some a0)]) (ci := 10) (k := 0) (n := 0) dX11_layLine_37 lkX11_248 caX11_points cvX11_points rfl (by decide) rfl (fun b Q1 hq => tX11_points b x9 h4 Q1 hq) ⟨by decide, by decide⟩ (Nat.le_of_ble_eq_true rfl) rfl hF (fun x10 hF => ?_)
    show gV G mX11_layLine 4 Q 40 [some (sr (some a0)), some (si x3)] [si x10, sr (some a0)] (0) (0) h4
    refine v_sipush (pc := 40) (v := (192 : Int32)) dX11_layLine_40 rfl ?_
    refine v_iadd (pc := 43) dX11_layLine_43 ?_
    refine ch_V (pc := 44) gU (as := [si (x10 + (192 : Int32))]) (st := []) (ci := 10) (k := 0) (n := 0) dX11_layLine_44 lkX11_245 caX11_cell cvX11_cell rfl (by decide) rfl (fun b Q1 hq => tX11_cell b (x10 + (192 : Int32)) h4 Q1 hq) ⟨by decide, by decide⟩ (Nat.le_of_ble_eq_true rfl) rfl hF (fun x11 h12 hF => ?_)
    show gV G mX11_layLine 4 Q 47 [some (sr (some a0)), some (si x3)] [] (0) (0) h12
    exact v_lle [some (sr (some a0)), some (si x3)] ⟨rfl, rfl, trivial⟩ (hj8 _ (okB_some hF))
  refine v_aload_n (pc := 47) (i := 0) dX11_layLine_47 rfl rfl ?_
  refine v_aload_n (pc := 48) (i := 0) dX11_layLine_48 rfl rfl ?_
  refine s_getR (pc := 49) dX11_layLine_49 flX11_26 rfl hF (fun x13 hF => ?_)
  refine v_bipush (pc := 52) (v := (12 : Int32)) dX11_layLine_52 rfl ?_
  refine v_aload_n (pc := 54) (i := 0) dX11_layLine_54 rfl rfl ?_
  refine s_getI (pc := 55) dX11_layLine_55 flX11_128 rfl hF (fun x14 hF => ?_)
  refine v_imul (pc := 58) dX11_layLine_58 ?_
  refine v_aload_n (pc := 59) (i := 0) dX11_layLine_59 rfl rfl ?_
  refine s_getR (pc := 60) dX11_layLine_60 flX11_29 rfl hF (fun x15 hF => ?_)
  refine v_aload_n (pc := 63) (i := 0) dX11_layLine_63 rfl rfl ?_
  refine s_getI (pc := 64) dX11_layLine_64 flX11_128 rfl hF (fun x16 hF => ?_)
  refine s_iald (pc := 67) dX11_layLine_67 hF (fun x17 hF => ?_)
  refine ch_V (pc := 68) gU (as := [sr x13, si ((12 : Int32) * x14), si x17]) (st := []) (ci := 10) (k := 0) (n := 0) dX11_layLine_68 lkX11_264 caX11_write cvX11_write rfl (by decide) rfl (fun b Q1 hq => tX11_write b x13 ((12 : Int32) * x14) x17 q7 Q1 hq) ⟨by decide, by decide⟩ (Nat.le_of_ble_eq_true rfl) rfl hF (fun x18 h19 hF => ?_)
  show gV G mX11_layLine 4 Q 71 [some (sr (some a0)), some (si x3)] [] (0) (0) h19
  refine v_iload_n (pc := 71) (i := 1) dX11_layLine_71 rfl rfl ?_
  refine v_iconst (pc := 72) (v := (3 : Int32)) dX11_layLine_72 rfl ?_
  refine mg (X := fun q20 => gV G mX11_layLine 4 Q 104 [some (sr (some a0)), none] [] (0) (0) q20) hF (fun _ hj21 hF => ?_) (fun q20 hF => ?_)
  · refine v_icmp_ne (pc := 73) 104 dX11_layLine_73 rfl (fun hc => ?_) (fun hc => ?_)
    · replace hF := (okB_if hF).2 hc
      exact v_lle [some (sr (some a0)), none] ⟨rfl, trivial⟩ (hj21 _ (okB_some hF))
    replace hF := (okB_if hF).1 hc
    refine v_aload_n (pc := 76) (i := 0) dX11_layLine_76 rfl rfl ?_
    refine v_iconst (pc := 77) (v := (0 : Int32)) dX11_layLine_77 rfl ?_
    refine ch_V (pc := 78) gU (as := [si (0 : Int32)]) (st := []) (ci := 10) (k := 0) (n := 0) dX11_layLine_78 lkX11_245 caX11_cell cvX11_cell rfl (by decide) rfl (fun b Q1 hq => tX11_cell b (0 : Int32) h19 Q1 hq) ⟨by decide, by decide⟩ (Nat.le_of_ble_eq_true rfl) rfl hF (fun x22 h23 hF => ?_)
    show gV G mX11_layLine 4 Q 81 [some (sr (some a0)), some (si x3)] [] (0) (0) h23
    refine v_aload_n (pc := 81) (i := 0) dX11_layLine_81 rfl rfl ?_
    refine v_aload_n (pc := 82) (i := 0) dX11_layLine_82 rfl rfl ?_
    refine s_getR (pc := 83) dX11_layLine_83 flX11_38 rfl hF (fun x24 hF => ?_)
    refine v_aload_n (pc := 86) (i := 0) dX11_layLine_86 rfl rfl ?_
    refine s_getI (pc := 87) dX11_layLine_87 flX11_128 rfl hF (fun x25 hF => ?_)
    refine s_zald (pc := 90) dX11_layLine_90 hF (fun x26 hF => ?_)
    refine v_if_eq (pc := 91) 99 dX11_layLine_91 rfl (fun hc => ?_) (fun hc => ?_)
    · replace hF := (okB_if hF).1 hc
      refine v_bipush (pc := 99) (v := (36 : Int32)) dX11_layLine_99 rfl ?_
      refine ch_V (pc := 101) gU (as := [si (36 : Int32)]) (st := []) (ci := 10) (k := 0) (n := 0) dX11_layLine_101 lkX11_245 caX11_cell cvX11_cell rfl (by decide) rfl (fun b Q1 hq => tX11_cell b (36 : Int32) h23 Q1 hq) ⟨by decide, by decide⟩ (Nat.le_of_ble_eq_true rfl) rfl hF (fun x27 h28 hF => ?_)
      show gV G mX11_layLine 4 Q 104 [some (sr (some a0)), some (si x3)] [] (0) (0) h28
      exact v_lle [some (sr (some a0)), none] ⟨rfl, trivial⟩ (hj21 _ (okB_some hF))
    replace hF := (okB_if hF).2 hc
    refine v_bipush (pc := 94) (v := (63 : Int32)) dX11_layLine_94 rfl ?_
    refine v_goto (pc := 96) 101 dX11_layLine_96 rfl ?_
    refine ch_V (pc := 101) gU (as := [si (63 : Int32)]) (st := []) (ci := 10) (k := 0) (n := 0) dX11_layLine_101 lkX11_245 caX11_cell cvX11_cell rfl (by decide) rfl (fun b Q1 hq => tX11_cell b (63 : Int32) h23 Q1 hq) ⟨by decide, by decide⟩ (Nat.le_of_ble_eq_true rfl) rfl hF (fun x29 h30 hF => ?_)
    show gV G mX11_layLine 4 Q 104 [some (sr (some a0)), some (si x3)] [] (0) (0) h30
    exact v_lle [some (sr (some a0)), none] ⟨rfl, trivial⟩ (hj21 _ (okB_some hF))
  refine v_aload_n (pc := 104) (i := 0) dX11_layLine_104 rfl rfl ?_
  refine s_getR (pc := 105) dX11_layLine_105 flX11_35 rfl hF (fun x31 hF => ?_)
  refine v_aload_n (pc := 108) (i := 0) dX11_layLine_108 rfl rfl ?_
  refine s_getI (pc := 109) dX11_layLine_109 flX11_128 rfl hF (fun x32 hF => ?_)
  refine s_iald (pc := 112) dX11_layLine_112 hF (fun x33 hF => ?_)
  refine mg (X := fun q34 => gV G mX11_layLine 4 Q 145 [some (sr (some a0)), none] [] (0) (0) q34) hF (fun _ hj35 hF => ?_) (fun q34 hF => ?_)
  · refine v_if_le (pc := 113) 145 dX11_layLine_113 rfl (fun hc => ?_) (fun hc => ?_)
    · replace hF := (okB_if hF).1 hc
      exact v_lle [some (sr (some a0)), none] ⟨rfl, trivial⟩ (hj35 _ (okB_some hF))
    replace hF := (okB_if hF).2 hc
    refine v_aload_n (pc := 116) (i := 0) dX11_layLine_116 rfl rfl ?_
    refine v_iconst (pc := 117) (v := (0 : Int32)) dX11_layLine_117 rfl ?_
    refine ch_V (pc := 118) gU (as := [si (0 : Int32)]) (st := []) (ci := 10) (k := 0) (n := 0) dX11_layLine_118 lkX11_245 caX11_cell cvX11_cell rfl (by decide) rfl (fun b Q1 hq => tX11_cell b (0 : Int32) q20 Q1 hq) ⟨by decide, by decide⟩ (Nat.le_of_ble_eq_true rfl) rfl hF (fun x36 h37 hF => ?_)
    show gV G mX11_layLine 4 Q 121 [some (sr (some a0)), none] [] (0) (0) h37
    refine v_aload_n (pc := 121) (i := 0) dX11_layLine_121 rfl rfl ?_
    refine v_aload_n (pc := 122) (i := 0) dX11_layLine_122 rfl rfl ?_
    refine s_getR (pc := 123) dX11_layLine_123 flX11_32 rfl hF (fun x38 hF => ?_)
    refine v_bipush (pc := 126) (v := (12 : Int32)) dX11_layLine_126 rfl ?_
    refine v_aload_n (pc := 128) (i := 0) dX11_layLine_128 rfl rfl ?_
    refine s_getI (pc := 129) dX11_layLine_129 flX11_128 rfl hF (fun x39 hF => ?_)
    refine v_imul (pc := 132) dX11_layLine_132 ?_
    refine v_aload_n (pc := 133) (i := 0) dX11_layLine_133 rfl rfl ?_
    refine s_getR (pc := 134) dX11_layLine_134 flX11_35 rfl hF (fun x40 hF => ?_)
    refine v_aload_n (pc := 137) (i := 0) dX11_layLine_137 rfl rfl ?_
    refine s_getI (pc := 138) dX11_layLine_138 flX11_128 rfl hF (fun x41 hF => ?_)
    refine s_iald (pc := 141) dX11_layLine_141 hF (fun x42 hF => ?_)
    refine ch_V (pc := 142) gU (as := [sr x38, si ((12 : Int32) * x39), si x42]) (st := []) (ci := 10) (k := 0) (n := 0) dX11_layLine_142 lkX11_264 caX11_write cvX11_write rfl (by decide) rfl (fun b Q1 hq => tX11_write b x38 ((12 : Int32) * x39) x42 h37 Q1 hq) ⟨by decide, by decide⟩ (Nat.le_of_ble_eq_true rfl) rfl hF (fun x43 h44 hF => ?_)
    show gV G mX11_layLine 4 Q 145 [some (sr (some a0)), none] [] (0) (0) h44
    exact v_lle [some (sr (some a0)), none] ⟨rfl, trivial⟩ (hj35 _ (okB_some hF))
  refine v_aload_n (pc := 145) (i := 0) dX11_layLine_145 rfl rfl ?_
  refine s_getI (pc := 146) dX11_layLine_146 flX11_267 rfl hF (fun x45 hF => ?_)
  refine v_if_eq (pc := 149) 159 dX11_layLine_149 rfl (fun hc => ?_) (fun hc => ?_)
  · replace hF := (okB_if hF).1 hc
    exact v_ret (pc := 159) dX11_layLine_159 rfl (okr hF fun q => q)
  replace hF := (okB_if hF).2 hc
  refine v_aload_n (pc := 152) (i := 0) dX11_layLine_152 rfl rfl ?_
  refine v_sipush (pc := 153) (v := (192 : Int32)) dX11_layLine_153 rfl ?_
  refine ch_V (pc := 156) gU (as := [si (192 : Int32)]) (st := []) (ci := 10) (k := 0) (n := 0) dX11_layLine_156 lkX11_245 caX11_cell cvX11_cell rfl (by decide) rfl (fun b Q1 hq => tX11_cell b (192 : Int32) q34 Q1 hq) ⟨by decide, by decide⟩ (Nat.le_of_ble_eq_true rfl) rfl hF (fun x46 h47 hF => ?_)
  show gV G mX11_layLine 4 Q 159 [some (sr (some a0)), none] [] (0) (0) h47
  exact v_ret (pc := 159) dX11_layLine_159 rfl (okr hF fun q => q)
/-! BrailleDeskModel.fitOffset -/
def fX11_fitOffset (a0 : Nat) (h : hp) : Option (Unit × hp) :=
  (oOb 10 (some a0) h).bind fun b =>
  o2 (fX11_layLine b h) fun _ h2 =>
  (oGI 10 25 (some a0) h2).bind fun x3 =>
  if x3 ≤ 0 then
  (some (((), h2)))
  else
  (oGI 10 25 (some a0) h2).bind fun x4 =>
  (oGI 10 53 (some a0) h2).bind fun x5 =>
  if x4 < x5 then
  (some (((), h2)))
  else
  (oGI 10 53 (some a0) h2).bind fun x6 =>
  if x6 = 0 then
  ((oPI 10 25 (some a0) (0 : Int32) h2).bind fun h9 =>
  some (((), h9)))
  else
  (oGI 10 53 (some a0) h2).bind fun x7 =>
  (oNz (10 : Int32)).bind fun _ =>
  (oPI 10 25 (some a0) (((x7 - (1 : Int32)) / (10 : Int32)) * (10 : Int32)) h2).bind fun h8 =>
  some (((), h8))
theorem tX11_fitOffset {G : gG} (a0 : Nat) (h : hp) (Q : hQ) (hF : okB (fX11_fitOffset a0 h) (pH gU Q)) : gS G mX11_fitOffset 5 0 0 [sr (some a0)] h Q := by
  delta fX11_fitOffset at hF
  refine gS_at [some (sr (some a0))] pl_X11 rfl (Nat.le_of_ble_eq_true rfl) rfl ?_
  refine v_aload_n (pc := 0) (i := 0) dX11_fitOffset_0 rfl rfl ?_
  refine ch_V (pc := 1) gU (as := []) (st := []) (ci := 10) (k := 0) (n := 0) dX11_fitOffset_1 lkX11_271 caX11_layLine cvX11_layLine rfl (by decide) rfl (fun b Q1 hq => tX11_layLine b h Q1 hq) ⟨by decide, by decide⟩ (Nat.le_of_ble_eq_true rfl) rfl hF (fun x1 h2 hF => ?_)
  show gV G mX11_fitOffset 5 Q 4 [some (sr (some a0))] [] (0) (0) h2
  refine v_aload_n (pc := 4) (i := 0) dX11_fitOffset_4 rfl rfl ?_
  refine s_getI (pc := 5) dX11_fitOffset_5 flX11_274 rfl hF (fun x3 hF => ?_)
  refine v_if_le (pc := 8) 49 dX11_fitOffset_8 rfl (fun hc => ?_) (fun hc => ?_)
  · replace hF := (okB_if hF).1 hc
    exact v_ret (pc := 49) dX11_fitOffset_49 rfl (okr hF fun q => q)
  replace hF := (okB_if hF).2 hc
  refine v_aload_n (pc := 11) (i := 0) dX11_fitOffset_11 rfl rfl ?_
  refine s_getI (pc := 12) dX11_fitOffset_12 flX11_274 rfl hF (fun x4 hF => ?_)
  refine v_aload_n (pc := 15) (i := 0) dX11_fitOffset_15 rfl rfl ?_
  refine s_getI (pc := 16) dX11_fitOffset_16 flX11_236 rfl hF (fun x5 hF => ?_)
  refine v_icmp_lt (pc := 19) 49 dX11_fitOffset_19 rfl (fun hc => ?_) (fun hc => ?_)
  · replace hF := (okB_if hF).1 hc
    exact v_ret (pc := 49) dX11_fitOffset_49 rfl (okr hF fun q => q)
  replace hF := (okB_if hF).2 hc
  refine v_aload_n (pc := 22) (i := 0) dX11_fitOffset_22 rfl rfl ?_
  refine v_aload_n (pc := 23) (i := 0) dX11_fitOffset_23 rfl rfl ?_
  refine s_getI (pc := 24) dX11_fitOffset_24 flX11_236 rfl hF (fun x6 hF => ?_)
  refine v_if_ne (pc := 27) 34 dX11_fitOffset_27 rfl (fun hc => ?_) (fun hc => ?_)
  · replace hF := (okB_if hF).2 hc
    refine v_aload_n (pc := 34) (i := 0) dX11_fitOffset_34 rfl rfl ?_
    refine s_getI (pc := 35) dX11_fitOffset_35 flX11_236 rfl hF (fun x7 hF => ?_)
    refine v_iconst (pc := 38) (v := (1 : Int32)) dX11_fitOffset_38 rfl ?_
    refine v_isub (pc := 39) dX11_fitOffset_39 ?_
    refine v_bipush (pc := 40) (v := (10 : Int32)) dX11_fitOffset_40 rfl ?_
    refine s_idiv (pc := 42) dX11_fitOffset_42 hF (fun hF => ?_)
    refine v_bipush (pc := 43) (v := (10 : Int32)) dX11_fitOffset_43 rfl ?_
    refine v_imul (pc := 45) dX11_fitOffset_45 ?_
    refine s_putI (pc := 46) dX11_fitOffset_46 flX11_274 (Or.inl rfl) rfl hF (fun h8 hF => ?_)
    exact v_ret (pc := 49) dX11_fitOffset_49 rfl (okr hF fun q => q)
  replace hF := (okB_if hF).1 hc
  refine v_iconst (pc := 30) (v := (0 : Int32)) dX11_fitOffset_30 rfl ?_
  refine v_goto (pc := 31) 46 dX11_fitOffset_31 rfl ?_
  refine s_putI (pc := 46) dX11_fitOffset_46 flX11_274 (Or.inl rfl) rfl hF (fun h9 hF => ?_)
  exact v_ret (pc := 49) dX11_fitOffset_49 rfl (okr hF fun q => q)
/-! BrailleDeskModel.isCharacter -/
def fX11_isCharacter (a0 : Int32) : Option Int32 :=
  (fX11_in a0 (32 : Int32) (126 : Int32)).bind fun x1 =>
  if x1 = 0 then
  ((fX11_in a0 (119040 : Int32) (119295 : Int32)).bind fun x2 =>
  if x2 = 0 then
  (some ((0 : Int32)))
  else
  some ((1 : Int32)))
  else
  some ((1 : Int32))
theorem tX11_isCharacter {G : gG} (a0 : Int32) (h : hp) (Q : hQ) (hF : okB (fX11_isCharacter a0) (pP gI Q h)) : gS G mX11_isCharacter 1 0 0 [si a0] h Q := by
  delta fX11_isCharacter at hF
  refine gS_at [some (si a0)] pl_X11 rfl (Nat.le_of_ble_eq_true rfl) rfl ?_
  refine v_iload_n (pc := 0) (i := 0) dX11_isCharacter_0 rfl rfl ?_
  refine v_bipush (pc := 1) (v := (32 : Int32)) dX11_isCharacter_1 rfl ?_
  refine v_bipush (pc := 3) (v := (126 : Int32)) dX11_isCharacter_3 rfl ?_
  refine cp_S (pc := 5) gI (as := [si a0, si (32 : Int32), si (126 : Int32)]) (st := []) (k := 0) (n := 0) dX11_isCharacter_5 lkX11_114 caX11_in csX11_in rfl (fun Q1 hq => tX11_in a0 (32 : Int32) (126 : Int32) h Q1 hq) ⟨by decide, by decide⟩ (Nat.le_of_ble_eq_true rfl) rfl hF (fun x1 hF => ?_)
  show gV G mX11_isCharacter 1 Q 8 [some (si a0)] [si x1] (0) (0) h
  refine v_if_ne (pc := 8) 24 dX11_isCharacter_8 rfl (fun hc => ?_) (fun hc => ?_)
  · replace hF := (okB_if hF).2 hc
    refine v_iconst (pc := 24) (v := (1 : Int32)) dX11_isCharacter_24 rfl ?_
    refine v_goto (pc := 25) 29 dX11_isCharacter_25 rfl ?_
    exact v_iret (pc := 29) dX11_isCharacter_29 rfl rfl (okr hF fun q => q)
  replace hF := (okB_if hF).1 hc
  refine v_iload_n (pc := 11) (i := 0) dX11_isCharacter_11 rfl rfl ?_
  refine v_ldcw (pc := 12) (v := (119040 : Int32)) dX11_isCharacter_12 ctX11_277 ?_
  refine v_ldcw (pc := 15) (v := (119295 : Int32)) dX11_isCharacter_15 ctX11_278 ?_
  refine cp_S (pc := 18) gI (as := [si a0, si (119040 : Int32), si (119295 : Int32)]) (st := []) (k := 0) (n := 0) dX11_isCharacter_18 lkX11_114 caX11_in csX11_in rfl (fun Q1 hq => tX11_in a0 (119040 : Int32) (119295 : Int32) h Q1 hq) ⟨by decide, by decide⟩ (Nat.le_of_ble_eq_true rfl) rfl hF (fun x2 hF => ?_)
  show gV G mX11_isCharacter 1 Q 21 [some (si a0)] [si x2] (0) (0) h
  refine v_if_eq (pc := 21) 28 dX11_isCharacter_21 rfl (fun hc => ?_) (fun hc => ?_)
  · replace hF := (okB_if hF).1 hc
    refine v_iconst (pc := 28) (v := (0 : Int32)) dX11_isCharacter_28 rfl ?_
    exact v_iret (pc := 29) dX11_isCharacter_29 rfl rfl (okr hF fun q => q)
  replace hF := (okB_if hF).2 hc
  refine v_iconst (pc := 24) (v := (1 : Int32)) dX11_isCharacter_24 rfl ?_
  refine v_goto (pc := 25) 29 dX11_isCharacter_25 rfl ?_
  exact v_iret (pc := 29) dX11_isCharacter_29 rfl rfl (okr hF fun q => q)
/-! BrailleDeskModel.draft -/
def fX11_draft (a0 : Nat) (a1 : Int32) (h : hp) : Option (Int32 × hp) :=
  (fX11_isCharacter a1).bind fun x1 =>
  Option.bind (α := Int32)
  (if x1 = 0 then
  (some (1 : Int32))
  else
  (oGI 10 19 (some a0) h).bind fun x4 =>
  if x4 = (12 : Int32) then
  (some (2 : Int32))
  else
  some (0 : Int32))
  fun q2 =>
  (oPI 10 48 (some a0) q2 h).bind fun h5 =>
  (oGI 10 48 (some a0) h5).bind fun x6 =>
  if x6 ≤ 0 then
  ((oGR 10 18 (some a0) h5).bind fun x7 =>
  (oGI 10 19 (some a0) h5).bind fun x8 =>
  (oIS x7 x8 a1 h5).bind fun h9 =>
  (oGI 10 19 (some a0) h9).bind fun x10 =>
  (oPI 10 19 (some a0) (x10 + (1 : Int32)) h9).bind fun h11 =>
  (oGI 10 19 (some a0) h11).bind fun x12 =>
  some ((x12, h11)))
  else
  some (((0 : Int32), h5))
theorem tX11_draft {G : gG} (a0 : Nat) (a1 : Int32) (h : hp) (Q : hQ) (hF : okB (fX11_draft a0 a1 h) (pH gI Q)) : gS G mX11_draft 2 0 0 [sr (some a0), si a1] h Q := by
  delta fX11_draft at hF
  refine gS_at [some (sr (some a0)), some (si a1)] pl_X11 rfl (Nat.le_of_ble_eq_true rfl) rfl ?_
  refine v_aload_n (pc := 0) (i := 0) dX11_draft_0 rfl rfl ?_
  refine v_iload_n (pc := 1) (i := 1) dX11_draft_1 rfl rfl ?_
  refine cp_S (pc := 2) gI (as := [si a1]) (st := [sr (some a0)]) (k := 0) (n := 0) dX11_draft_2 lkX11_279 caX11_isCharacter csX11_isCharacter rfl (fun Q1 hq => tX11_isCharacter a1 h Q1 hq) ⟨by decide, by decide⟩ (Nat.le_of_ble_eq_true rfl) rfl hF (fun x1 hF => ?_)
  show gV G mX11_draft 2 Q 5 [some (sr (some a0)), some (si a1)] [si x1, sr (some a0)] (0) (0) h
  refine mg (X := fun q2 => gV G mX11_draft 2 Q 26 [some (sr (some a0)), some (si a1)] [si q2, sr (some a0)] (0) (0) h) hF (fun _ hj3 hF => ?_) (fun q2 hF => ?_)
  · refine v_if_ne (pc := 5) 12 dX11_draft_5 rfl (fun hc => ?_) (fun hc => ?_)
    · replace hF := (okB_if hF).2 hc
      refine v_aload_n (pc := 12) (i := 0) dX11_draft_12 rfl rfl ?_
      refine s_getI (pc := 13) dX11_draft_13 flX11_282 rfl hF (fun x4 hF => ?_)
      refine v_bipush (pc := 16) (v := (12 : Int32)) dX11_draft_16 rfl ?_
      refine v_icmp_ne (pc := 18) 25 dX11_draft_18 rfl (fun hc => ?_) (fun hc => ?_)
      · replace hF := (okB_if hF).2 hc
        refine v_iconst (pc := 25) (v := (0 : Int32)) dX11_draft_25 rfl ?_
        exact v_lle [some (sr (some a0)), some (si a1)] ⟨rfl, rfl, trivial⟩ (hj3 _ (okB_some hF))
      replace hF := (okB_if hF).1 hc
      refine v_iconst (pc := 21) (v := (2 : Int32)) dX11_draft_21 rfl ?_
      refine v_goto (pc := 22) 26 dX11_draft_22 rfl ?_
      exact v_lle [some (sr (some a0)), some (si a1)] ⟨rfl, rfl, trivial⟩ (hj3 _ (okB_some hF))
    replace hF := (okB_if hF).1 hc
    refine v_iconst (pc := 8) (v := (1 : Int32)) dX11_draft_8 rfl ?_
    refine v_goto (pc := 9) 26 dX11_draft_9 rfl ?_
    exact v_lle [some (sr (some a0)), some (si a1)] ⟨rfl, rfl, trivial⟩ (hj3 _ (okB_some hF))
  refine s_putI (pc := 26) dX11_draft_26 flX11_111 (Or.inl rfl) rfl hF (fun h5 hF => ?_)
  refine v_aload_n (pc := 29) (i := 0) dX11_draft_29 rfl rfl ?_
  refine s_getI (pc := 30) dX11_draft_30 flX11_111 rfl hF (fun x6 hF => ?_)
  refine v_if_le (pc := 33) 38 dX11_draft_33 rfl (fun hc => ?_) (fun hc => ?_)
  · replace hF := (okB_if hF).1 hc
    refine v_aload_n (pc := 38) (i := 0) dX11_draft_38 rfl rfl ?_
    refine s_getR (pc := 39) dX11_draft_39 flX11_62 rfl hF (fun x7 hF => ?_)
    refine v_aload_n (pc := 42) (i := 0) dX11_draft_42 rfl rfl ?_
    refine s_getI (pc := 43) dX11_draft_43 flX11_282 rfl hF (fun x8 hF => ?_)
    refine v_iload_n (pc := 46) (i := 1) dX11_draft_46 rfl rfl ?_
    refine s_iast (pc := 47) dX11_draft_47 hF (fun h9 hF => ?_)
    refine v_aload_n (pc := 48) (i := 0) dX11_draft_48 rfl rfl ?_
    refine v_dup (pc := 49) dX11_draft_49 rfl ?_
    refine s_getI (pc := 50) dX11_draft_50 flX11_282 rfl hF (fun x10 hF => ?_)
    refine v_iconst (pc := 53) (v := (1 : Int32)) dX11_draft_53 rfl ?_
    refine v_iadd (pc := 54) dX11_draft_54 ?_
    refine s_putI (pc := 55) dX11_draft_55 flX11_282 (Or.inl rfl) rfl hF (fun h11 hF => ?_)
    refine v_aload_n (pc := 58) (i := 0) dX11_draft_58 rfl rfl ?_
    refine s_getI (pc := 59) dX11_draft_59 flX11_282 rfl hF (fun x12 hF => ?_)
    exact v_iret (pc := 62) dX11_draft_62 rfl rfl (okr hF fun q => q)
  replace hF := (okB_if hF).2 hc
  refine v_iconst (pc := 36) (v := (0 : Int32)) dX11_draft_36 rfl ?_
  exact v_iret (pc := 37) dX11_draft_37 rfl rfl (okr hF fun q => q)
/-! BrailleDeskModel.canHave -/
def fX11_canHave (a0 : Int32) (a1 : Int32) : Option Int32 :=
  oR (τ := Int32) (σ := Unit)
  (if a0 = 0 then
  (some (.inr ()))
  else
  if a0 = (7 : Int32) then
  (some (.inr ()))
  else
  if a0 = (5 : Int32) then
  (if a1 = (6 : Int32) then
  (some (.inl ((1 : Int32))))
  else
  some (.inl ((0 : Int32))))
  else
  if a0 = (6 : Int32) then
  ((fX11_in a1 (1 : Int32) (4 : Int32)).bind fun x3 =>
  if x3 = 0 then
  (some (.inl ((0 : Int32))))
  else
  some (.inl ((1 : Int32))))
  else
  some (.inl ((0 : Int32))))
  fun q1 =>
  if a1 = (6 : Int32) then
  (some ((0 : Int32)))
  else
  some ((1 : Int32))
theorem tX11_canHave {G : gG} (a0 : Int32) (a1 : Int32) (h : hp) (Q : hQ) (hF : okB (fX11_canHave a0 a1) (pP gI Q h)) : gS G mX11_canHave 1 0 0 [si a0, si a1] h Q := by
  delta fX11_canHave at hF
  refine gS_at [some (si a0), some (si a1)] pl_X11 rfl (Nat.le_of_ble_eq_true rfl) rfl ?_
  refine v_iload_n (pc := 0) (i := 0) dX11_canHave_0 rfl rfl ?_
  refine mgR (X := fun q1 => gV G mX11_canHave 1 Q 10 [none, some (si a1)] [] (0) (0) h) hF (fun _ hj2 hr2 hF => ?_) (fun q1 hF => ?_)
  · refine v_if_eq (pc := 1) 10 dX11_canHave_1 rfl (fun hc => ?_) (fun hc => ?_)
    · replace hF := (okB_if hF).1 hc
      exact v_lle [none, some (si a1)] ⟨rfl, trivial⟩ (hj2 _ (okB_some hF))
    replace hF := (okB_if hF).2 hc
    refine v_iload_n (pc := 4) (i := 0) dX11_canHave_4 rfl rfl ?_
    refine v_bipush (pc := 5) (v := (7 : Int32)) dX11_canHave_5 rfl ?_
    refine v_icmp_ne (pc := 7) 22 dX11_canHave_7 rfl (fun hc => ?_) (fun hc => ?_)
    · replace hF := (okB_if hF).2 hc
      refine v_iload_n (pc := 22) (i := 0) dX11_canHave_22 rfl rfl ?_
      refine v_iconst (pc := 23) (v := (5 : Int32)) dX11_canHave_23 rfl ?_
      refine v_icmp_ne (pc := 24) 41 dX11_canHave_24 rfl (fun hc => ?_) (fun hc => ?_)
      · replace hF := (okB_if hF).2 hc
        refine v_iload_n (pc := 41) (i := 0) dX11_canHave_41 rfl rfl ?_
        refine v_bipush (pc := 42) (v := (6 : Int32)) dX11_canHave_42 rfl ?_
        refine v_icmp_ne (pc := 44) 60 dX11_canHave_44 rfl (fun hc => ?_) (fun hc => ?_)
        · replace hF := (okB_if hF).2 hc
          refine v_iconst (pc := 60) (v := (0 : Int32)) dX11_canHave_60 rfl ?_
          exact v_iret (pc := 61) dX11_canHave_61 rfl rfl (hr2 _ (okB_some hF))
        replace hF := (okB_if hF).1 hc
        refine v_iload_n (pc := 47) (i := 1) dX11_canHave_47 rfl rfl ?_
        refine v_iconst (pc := 48) (v := (1 : Int32)) dX11_canHave_48 rfl ?_
        refine v_iconst (pc := 49) (v := (4 : Int32)) dX11_canHave_49 rfl ?_
        refine cp_S (pc := 50) gI (as := [si a1, si (1 : Int32), si (4 : Int32)]) (st := []) (k := 0) (n := 0) dX11_canHave_50 lkX11_114 caX11_in csX11_in rfl (fun Q1 hq => tX11_in a1 (1 : Int32) (4 : Int32) h Q1 hq) ⟨by decide, by decide⟩ (Nat.le_of_ble_eq_true rfl) rfl hF (fun x3 hF => ?_)
        show gV G mX11_canHave 1 Q 53 [some (si a0), some (si a1)] [si x3] (0) (0) h
        refine v_if_eq (pc := 53) 60 dX11_canHave_53 rfl (fun hc => ?_) (fun hc => ?_)
        · replace hF := (okB_if hF).1 hc
          refine v_iconst (pc := 60) (v := (0 : Int32)) dX11_canHave_60 rfl ?_
          exact v_iret (pc := 61) dX11_canHave_61 rfl rfl (hr2 _ (okB_some hF))
        replace hF := (okB_if hF).2 hc
        refine v_iconst (pc := 56) (v := (1 : Int32)) dX11_canHave_56 rfl ?_
        refine v_goto (pc := 57) 61 dX11_canHave_57 rfl ?_
        exact v_iret (pc := 61) dX11_canHave_61 rfl rfl (hr2 _ (okB_some hF))
      replace hF := (okB_if hF).1 hc
      refine v_iload_n (pc := 27) (i := 1) dX11_canHave_27 rfl rfl ?_
      refine v_bipush (pc := 28) (v := (6 : Int32)) dX11_canHave_28 rfl ?_
      refine v_icmp_ne (pc := 30) 37 dX11_canHave_30 rfl (fun hc => ?_) (fun hc => ?_)
      · replace hF := (okB_if hF).2 hc
        refine v_iconst (pc := 37) (v := (0 : Int32)) dX11_canHave_37 rfl ?_
        refine v_goto (pc := 38) 61 dX11_canHave_38 rfl ?_
        exact v_iret (pc := 61) dX11_canHave_61 rfl rfl (hr2 _ (okB_some hF))
      replace hF := (okB_if hF).1 hc
      refine v_iconst (pc := 33) (v := (1 : Int32)) dX11_canHave_33 rfl ?_
      refine v_goto (pc := 34) 61 dX11_canHave_34 rfl ?_
      exact v_iret (pc := 61) dX11_canHave_61 rfl rfl (hr2 _ (okB_some hF))
    replace hF := (okB_if hF).1 hc
    exact v_lle [none, some (si a1)] ⟨rfl, trivial⟩ (hj2 _ (okB_some hF))
  refine v_iload_n (pc := 10) (i := 1) dX11_canHave_10 rfl rfl ?_
  refine v_bipush (pc := 11) (v := (6 : Int32)) dX11_canHave_11 rfl ?_
  refine v_icmp_eq (pc := 13) 20 dX11_canHave_13 rfl (fun hc => ?_) (fun hc => ?_)
  · replace hF := (okB_if hF).1 hc
    refine v_iconst (pc := 20) (v := (0 : Int32)) dX11_canHave_20 rfl ?_
    exact v_iret (pc := 21) dX11_canHave_21 rfl rfl (okr hF fun q => q)
  replace hF := (okB_if hF).2 hc
  refine v_iconst (pc := 16) (v := (1 : Int32)) dX11_canHave_16 rfl ?_
  refine v_goto (pc := 17) 21 dX11_canHave_17 rfl ?_
  exact v_iret (pc := 21) dX11_canHave_21 rfl rfl (okr hF fun q => q)
/-! BrailleDeskModel.takeDraft -/
def fX11_takeDraft (a0 : Nat) (a1 : Int32) (h : hp) : Option (Unit × hp) :=
  (oGR 10 18 (some a0) h).bind fun x1 =>
  (oGR 10 6 (some a0) h).bind fun x2 =>
  (oGI 10 19 (some a0) h).bind fun x3 =>
  o2 (fX11_copy x1 (0 : Int32) x2 ((12 : Int32) * a1) x3 h) fun _ h5 =>
  (oGR 10 7 (some a0) h5).bind fun x6 =>
  (oGI 10 19 (some a0) h5).bind fun x7 =>
  (oIS x6 a1 x7 h5).bind fun h8 =>
  (oPI 10 19 (some a0) (0 : Int32) h8).bind fun h9 =>
  some (((), h9))
theorem tX11_takeDraft {G : gG} (a0 : Nat) (a1 : Int32) (h : hp) (Q : hQ) (hF : okB (fX11_takeDraft a0 a1 h) (pH gU Q)) : gS G mX11_takeDraft 1 0 0 [sr (some a0), si a1] h Q := by
  delta fX11_takeDraft at hF
  refine gS_at [some (sr (some a0)), some (si a1)] pl_X11 rfl (Nat.le_of_ble_eq_true rfl) rfl ?_
  refine v_aload_n (pc := 0) (i := 0) dX11_takeDraft_0 rfl rfl ?_
  refine s_getR (pc := 1) dX11_takeDraft_1 flX11_62 rfl hF (fun x1 hF => ?_)
  refine v_iconst (pc := 4) (v := (0 : Int32)) dX11_takeDraft_4 rfl ?_
  refine v_aload_n (pc := 5) (i := 0) dX11_takeDraft_5 rfl rfl ?_
  refine s_getR (pc := 6) dX11_takeDraft_6 flX11_26 rfl hF (fun x2 hF => ?_)
  refine v_bipush (pc := 9) (v := (12 : Int32)) dX11_takeDraft_9 rfl ?_
  refine v_iload_n (pc := 11) (i := 1) dX11_takeDraft_11 rfl rfl ?_
  refine v_imul (pc := 12) dX11_takeDraft_12 ?_
  refine v_aload_n (pc := 13) (i := 0) dX11_takeDraft_13 rfl rfl ?_
  refine s_getI (pc := 14) dX11_takeDraft_14 flX11_282 rfl hF (fun x3 hF => ?_)
  refine ch_S (pc := 17) gU (as := [sr x1, si (0 : Int32), sr x2, si ((12 : Int32) * a1), si x3]) (st := []) (k := 0) (n := 0) dX11_takeDraft_17 lkX11_181 caX11_copy csX11_copy rfl (fun Q1 hq => tX11_copy x1 (0 : Int32) x2 ((12 : Int32) * a1) x3 h Q1 hq) ⟨by decide, by decide⟩ (Nat.le_of_ble_eq_true rfl) rfl hF (fun x4 h5 hF => ?_)
  show gV G mX11_takeDraft 1 Q 20 [some (sr (some a0)), some (si a1)] [] (0) (0) h5
  refine v_aload_n (pc := 20) (i := 0) dX11_takeDraft_20 rfl rfl ?_
  refine s_getR (pc := 21) dX11_takeDraft_21 flX11_29 rfl hF (fun x6 hF => ?_)
  refine v_iload_n (pc := 24) (i := 1) dX11_takeDraft_24 rfl rfl ?_
  refine v_aload_n (pc := 25) (i := 0) dX11_takeDraft_25 rfl rfl ?_
  refine s_getI (pc := 26) dX11_takeDraft_26 flX11_282 rfl hF (fun x7 hF => ?_)
  refine s_iast (pc := 29) dX11_takeDraft_29 hF (fun h8 hF => ?_)
  refine v_aload_n (pc := 30) (i := 0) dX11_takeDraft_30 rfl rfl ?_
  refine v_iconst (pc := 31) (v := (0 : Int32)) dX11_takeDraft_31 rfl ?_
  refine s_putI (pc := 32) dX11_takeDraft_32 flX11_282 (Or.inl rfl) rfl hF (fun h9 hF => ?_)
  exact v_ret (pc := 35) dX11_takeDraft_35 rfl (okr hF fun q => q)
