/-! ===== methods: their functions and rows ===== -/
theorem dX11_layOrder_0 : decode cX11_layOrder 0 = .ok (.iconst 1, 1) := by decide +kernel
theorem dX11_layOrder_1 : decode cX11_layOrder 1 = .ok (.istore_n 1, 1) := by decide +kernel
theorem dX11_layOrder_2 : decode cX11_layOrder 2 = .ok (.aload_n 0, 1) := by decide +kernel
theorem dX11_layOrder_3 : decode cX11_layOrder 3 = .ok (.getfield 95, 3) := by decide +kernel
theorem dX11_layOrder_6 : decode cX11_layOrder 6 = .ok (.iconst 0, 1) := by decide +kernel
theorem dX11_layOrder_7 : decode cX11_layOrder 7 = .ok (.iconst 0, 1) := by decide +kernel
theorem dX11_layOrder_8 : decode cX11_layOrder 8 = .ok (.iastore, 1) := by decide +kernel
theorem dX11_layOrder_9 : decode cX11_layOrder 9 = .ok (.aload_n 0, 1) := by decide +kernel
theorem dX11_layOrder_10 : decode cX11_layOrder 10 = .ok (.iconst 0, 1) := by decide +kernel
theorem dX11_layOrder_11 : decode cX11_layOrder 11 = .ok (.putfield 122, 3) := by decide +kernel
theorem dX11_layOrder_14 : decode cX11_layOrder 14 = .ok (.iload_n 1, 1) := by decide +kernel
theorem dX11_layOrder_15 : decode cX11_layOrder 15 = .ok (.ifCond .le 84, 3) := by decide +kernel
theorem dX11_layOrder_18 : decode cX11_layOrder 18 = .ok (.iinc 1 (-1), 3) := by decide +kernel
theorem dX11_layOrder_21 : decode cX11_layOrder 21 = .ok (.aload_n 0, 1) := by decide +kernel
theorem dX11_layOrder_22 : decode cX11_layOrder 22 = .ok (.getfield 95, 3) := by decide +kernel
theorem dX11_layOrder_25 : decode cX11_layOrder 25 = .ok (.iload_n 1, 1) := by decide +kernel
theorem dX11_layOrder_26 : decode cX11_layOrder 26 = .ok (.iaload, 1) := by decide +kernel
theorem dX11_layOrder_27 : decode cX11_layOrder 27 = .ok (.istore_n 2, 1) := by decide +kernel
theorem dX11_layOrder_28 : decode cX11_layOrder 28 = .ok (.aload_n 0, 1) := by decide +kernel
theorem dX11_layOrder_29 : decode cX11_layOrder 29 = .ok (.getfield 44, 3) := by decide +kernel
theorem dX11_layOrder_32 : decode cX11_layOrder 32 = .ok (.iload_n 2, 1) := by decide +kernel
theorem dX11_layOrder_33 : decode cX11_layOrder 33 = .ok (.baload, 1) := by decide +kernel
theorem dX11_layOrder_34 : decode cX11_layOrder 34 = .ok (.ifCond .ne 62, 3) := by decide +kernel
theorem dX11_layOrder_37 : decode cX11_layOrder 37 = .ok (.aload_n 0, 1) := by decide +kernel
theorem dX11_layOrder_38 : decode cX11_layOrder 38 = .ok (.getfield 92, 3) := by decide +kernel
theorem dX11_layOrder_41 : decode cX11_layOrder 41 = .ok (.aload_n 0, 1) := by decide +kernel
theorem dX11_layOrder_42 : decode cX11_layOrder 42 = .ok (.getfield 122, 3) := by decide +kernel
theorem dX11_layOrder_45 : decode cX11_layOrder 45 = .ok (.iload_n 2, 1) := by decide +kernel
theorem dX11_layOrder_46 : decode cX11_layOrder 46 = .ok (.iastore, 1) := by decide +kernel
theorem dX11_layOrder_47 : decode cX11_layOrder 47 = .ok (.aload_n 0, 1) := by decide +kernel
theorem dX11_layOrder_48 : decode cX11_layOrder 48 = .ok (.dup, 1) := by decide +kernel
theorem dX11_layOrder_49 : decode cX11_layOrder 49 = .ok (.getfield 122, 3) := by decide +kernel
theorem dX11_layOrder_52 : decode cX11_layOrder 52 = .ok (.iconst 1, 1) := by decide +kernel
theorem dX11_layOrder_53 : decode cX11_layOrder 53 = .ok (.iadd, 1) := by decide +kernel
theorem dX11_layOrder_54 : decode cX11_layOrder 54 = .ok (.putfield 122, 3) := by decide +kernel
theorem dX11_layOrder_57 : decode cX11_layOrder 57 = .ok (.aload_n 0, 1) := by decide +kernel
theorem dX11_layOrder_58 : decode cX11_layOrder 58 = .ok (.getfield 23, 3) := by decide +kernel
theorem dX11_layOrder_61 : decode cX11_layOrder 61 = .ok (.iload_n 2, 1) := by decide +kernel
theorem dX11_layOrder_62 : decode cX11_layOrder 62 = .ok (.iaload, 1) := by decide +kernel
theorem dX11_layOrder_63 : decode cX11_layOrder 63 = .ok (.iconst 1, 1) := by decide +kernel
theorem dX11_layOrder_64 : decode cX11_layOrder 64 = .ok (.isub, 1) := by decide +kernel
theorem dX11_layOrder_65 : decode cX11_layOrder 65 = .ok (.istore_n 3, 1) := by decide +kernel
theorem dX11_layOrder_66 : decode cX11_layOrder 66 = .ok (.iload_n 3, 1) := by decide +kernel
theorem dX11_layOrder_67 : decode cX11_layOrder 67 = .ok (.ifCond .lt 29, 3) := by decide +kernel
theorem dX11_layOrder_70 : decode cX11_layOrder 70 = .ok (.aload_n 0, 1) := by decide +kernel
theorem dX11_layOrder_71 : decode cX11_layOrder 71 = .ok (.getfield 95, 3) := by decide +kernel
theorem dX11_layOrder_74 : decode cX11_layOrder 74 = .ok (.iload_n 1, 1) := by decide +kernel
theorem dX11_layOrder_75 : decode cX11_layOrder 75 = .ok (.aload_n 0, 1) := by decide +kernel
theorem dX11_layOrder_76 : decode cX11_layOrder 76 = .ok (.getfield 20, 3) := by decide +kernel
theorem dX11_layOrder_79 : decode cX11_layOrder 79 = .ok (.bipush 10, 2) := by decide +kernel
theorem dX11_layOrder_81 : decode cX11_layOrder 81 = .ok (.iload_n 2, 1) := by decide +kernel
theorem dX11_layOrder_82 : decode cX11_layOrder 82 = .ok (.imul, 1) := by decide +kernel
theorem dX11_layOrder_83 : decode cX11_layOrder 83 = .ok (.iload_n 3, 1) := by decide +kernel
theorem dX11_layOrder_84 : decode cX11_layOrder 84 = .ok (.iadd, 1) := by decide +kernel
theorem dX11_layOrder_85 : decode cX11_layOrder 85 = .ok (.iaload, 1) := by decide +kernel
theorem dX11_layOrder_86 : decode cX11_layOrder 86 = .ok (.iastore, 1) := by decide +kernel
theorem dX11_layOrder_87 : decode cX11_layOrder 87 = .ok (.iinc 1 1, 3) := by decide +kernel
theorem dX11_layOrder_90 : decode cX11_layOrder 90 = .ok (.iinc 3 (-1), 3) := by decide +kernel
theorem dX11_layOrder_93 : decode cX11_layOrder 93 = .ok (.goto (-27), 3) := by decide +kernel
theorem dX11_layOrder_96 : decode cX11_layOrder 96 = .ok (.goto (-82), 3) := by decide +kernel
theorem dX11_layOrder_99 : decode cX11_layOrder 99 = .ok (.return_, 1) := by decide +kernel
theorem dX11_layCursor_0 : decode cX11_layCursor 0 = .ok (.aload_n 0, 1) := by decide +kernel
theorem dX11_layCursor_1 : decode cX11_layCursor 1 = .ok (.invokevirtual 125, 3) := by decide +kernel
theorem dX11_layCursor_4 : decode cX11_layCursor 4 = .ok (.iconst 0, 1) := by decide +kernel
theorem dX11_layCursor_5 : decode cX11_layCursor 5 = .ok (.istore_n 1, 1) := by decide +kernel
theorem dX11_layCursor_6 : decode cX11_layCursor 6 = .ok (.aload_n 0, 1) := by decide +kernel
theorem dX11_layCursor_7 : decode cX11_layCursor 7 = .ok (.getfield 92, 3) := by decide +kernel
theorem dX11_layCursor_10 : decode cX11_layCursor 10 = .ok (.iload_n 1, 1) := by decide +kernel
theorem dX11_layCursor_11 : decode cX11_layCursor 11 = .ok (.iaload, 1) := by decide +kernel
theorem dX11_layCursor_12 : decode cX11_layCursor 12 = .ok (.aload_n 0, 1) := by decide +kernel
theorem dX11_layCursor_13 : decode cX11_layCursor 13 = .ok (.getfield 128, 3) := by decide +kernel
theorem dX11_layCursor_16 : decode cX11_layCursor 16 = .ok (.if_icmp .eq 9, 3) := by decide +kernel
theorem dX11_layCursor_19 : decode cX11_layCursor 19 = .ok (.iinc 1 1, 3) := by decide +kernel
theorem dX11_layCursor_22 : decode cX11_layCursor 22 = .ok (.goto (-16), 3) := by decide +kernel
theorem dX11_layCursor_25 : decode cX11_layCursor 25 = .ok (.iload_n 1, 1) := by decide +kernel
theorem dX11_layCursor_26 : decode cX11_layCursor 26 = .ok (.ireturn, 1) := by decide +kernel
theorem dX11_word_0 : decode cX11_word 0 = .ok (.iload_n 0, 1) := by decide +kernel
theorem dX11_word_1 : decode cX11_word 1 = .ok (.i2l, 1) := by decide +kernel
theorem dX11_word_2 : decode cX11_word 2 = .ok (.ldc2_w 131, 3) := by decide +kernel
theorem dX11_word_5 : decode cX11_word 5 = .ok (.lmul, 1) := by decide +kernel
theorem dX11_word_6 : decode cX11_word 6 = .ok (.iload_n 1, 1) := by decide +kernel
theorem dX11_word_7 : decode cX11_word 7 = .ok (.i2l, 1) := by decide +kernel
theorem dX11_word_8 : decode cX11_word 8 = .ok (.ladd, 1) := by decide +kernel
theorem dX11_word_9 : decode cX11_word 9 = .ok (.ldc2_w 131, 3) := by decide +kernel
theorem dX11_word_12 : decode cX11_word 12 = .ok (.lmul, 1) := by decide +kernel
theorem dX11_word_13 : decode cX11_word 13 = .ok (.iload_n 2, 1) := by decide +kernel
theorem dX11_word_14 : decode cX11_word 14 = .ok (.i2l, 1) := by decide +kernel
theorem dX11_word_15 : decode cX11_word 15 = .ok (.ladd, 1) := by decide +kernel
theorem dX11_word_16 : decode cX11_word 16 = .ok (.lstore 7, 2) := by decide +kernel
theorem dX11_word_18 : decode cX11_word 18 = .ok (.lload 7, 2) := by decide +kernel
theorem dX11_word_20 : decode cX11_word 20 = .ok (.ldc2_w 131, 3) := by decide +kernel
theorem dX11_word_23 : decode cX11_word 23 = .ok (.lmul, 1) := by decide +kernel
theorem dX11_word_24 : decode cX11_word 24 = .ok (.iload_n 3, 1) := by decide +kernel
theorem dX11_word_25 : decode cX11_word 25 = .ok (.i2l, 1) := by decide +kernel
theorem dX11_word_26 : decode cX11_word 26 = .ok (.ladd, 1) := by decide +kernel
theorem dX11_word_27 : decode cX11_word 27 = .ok (.ldc2_w 131, 3) := by decide +kernel
theorem dX11_word_30 : decode cX11_word 30 = .ok (.lmul, 1) := by decide +kernel
theorem dX11_word_31 : decode cX11_word 31 = .ok (.iload 4, 2) := by decide +kernel
theorem dX11_word_33 : decode cX11_word 33 = .ok (.i2l, 1) := by decide +kernel
theorem dX11_word_34 : decode cX11_word 34 = .ok (.ladd, 1) := by decide +kernel
theorem dX11_word_35 : decode cX11_word 35 = .ok (.ldc2_w 131, 3) := by decide +kernel
theorem dX11_word_38 : decode cX11_word 38 = .ok (.lmul, 1) := by decide +kernel
theorem dX11_word_39 : decode cX11_word 39 = .ok (.iload 5, 2) := by decide +kernel
theorem dX11_word_41 : decode cX11_word 41 = .ok (.i2l, 1) := by decide +kernel
theorem dX11_word_42 : decode cX11_word 42 = .ok (.ladd, 1) := by decide +kernel
theorem dX11_word_43 : decode cX11_word 43 = .ok (.ldc2_w 131, 3) := by decide +kernel
theorem dX11_word_46 : decode cX11_word 46 = .ok (.lmul, 1) := by decide +kernel
theorem dX11_word_47 : decode cX11_word 47 = .ok (.iload 6, 2) := by decide +kernel
theorem dX11_word_49 : decode cX11_word 49 = .ok (.i2l, 1) := by decide +kernel
theorem dX11_word_50 : decode cX11_word 50 = .ok (.ladd, 1) := by decide +kernel
theorem dX11_word_51 : decode cX11_word 51 = .ok (.lreturn, 1) := by decide +kernel
theorem dX11_kindWord_0 : decode cX11_kindWord 0 = .ok (.iload_n 0, 1) := by decide +kernel
theorem dX11_kindWord_1 : decode cX11_kindWord 1 = .ok (.ifCond .ne 19, 3) := by decide +kernel
theorem dX11_kindWord_4 : decode cX11_kindWord 4 = .ok (.iconst 0, 1) := by decide +kernel
theorem dX11_kindWord_5 : decode cX11_kindWord 5 = .ok (.iconst 0, 1) := by decide +kernel
theorem dX11_kindWord_6 : decode cX11_kindWord 6 = .ok (.bipush 103, 2) := by decide +kernel
theorem dX11_kindWord_8 : decode cX11_kindWord 8 = .ok (.bipush 114, 2) := by decide +kernel
theorem dX11_kindWord_10 : decode cX11_kindWord 10 = .ok (.bipush 111, 2) := by decide +kernel
theorem dX11_kindWord_12 : decode cX11_kindWord 12 = .ok (.bipush 117, 2) := by decide +kernel
theorem dX11_kindWord_14 : decode cX11_kindWord 14 = .ok (.bipush 112, 2) := by decide +kernel
theorem dX11_kindWord_16 : decode cX11_kindWord 16 = .ok (.invokestatic 133, 3) := by decide +kernel
theorem dX11_kindWord_19 : decode cX11_kindWord 19 = .ok (.lreturn, 1) := by decide +kernel
theorem dX11_kindWord_20 : decode cX11_kindWord 20 = .ok (.iload_n 0, 1) := by decide +kernel
theorem dX11_kindWord_21 : decode cX11_kindWord 21 = .ok (.iconst 2, 1) := by decide +kernel
theorem dX11_kindWord_22 : decode cX11_kindWord 22 = .ok (.if_icmp .ne 20, 3) := by decide +kernel
theorem dX11_kindWord_25 : decode cX11_kindWord 25 = .ok (.iconst 0, 1) := by decide +kernel
theorem dX11_kindWord_26 : decode cX11_kindWord 26 = .ok (.bipush 98, 2) := by decide +kernel
theorem dX11_kindWord_28 : decode cX11_kindWord 28 = .ok (.bipush 117, 2) := by decide +kernel
theorem dX11_kindWord_30 : decode cX11_kindWord 30 = .ok (.bipush 116, 2) := by decide +kernel
theorem dX11_kindWord_32 : decode cX11_kindWord 32 = .ok (.bipush 116, 2) := by decide +kernel
theorem dX11_kindWord_34 : decode cX11_kindWord 34 = .ok (.bipush 111, 2) := by decide +kernel
theorem dX11_kindWord_36 : decode cX11_kindWord 36 = .ok (.bipush 110, 2) := by decide +kernel
theorem dX11_kindWord_38 : decode cX11_kindWord 38 = .ok (.invokestatic 133, 3) := by decide +kernel
theorem dX11_kindWord_41 : decode cX11_kindWord 41 = .ok (.lreturn, 1) := by decide +kernel
theorem dX11_kindWord_42 : decode cX11_kindWord 42 = .ok (.iload_n 0, 1) := by decide +kernel
theorem dX11_kindWord_43 : decode cX11_kindWord 43 = .ok (.iconst 3, 1) := by decide +kernel
theorem dX11_kindWord_44 : decode cX11_kindWord 44 = .ok (.if_icmp .ne 19, 3) := by decide +kernel
theorem dX11_kindWord_47 : decode cX11_kindWord 47 = .ok (.iconst 0, 1) := by decide +kernel
theorem dX11_kindWord_48 : decode cX11_kindWord 48 = .ok (.iconst 0, 1) := by decide +kernel
theorem dX11_kindWord_49 : decode cX11_kindWord 49 = .ok (.bipush 99, 2) := by decide +kernel
theorem dX11_kindWord_51 : decode cX11_kindWord 51 = .ok (.bipush 104, 2) := by decide +kernel
theorem dX11_kindWord_53 : decode cX11_kindWord 53 = .ok (.bipush 101, 2) := by decide +kernel
theorem dX11_kindWord_55 : decode cX11_kindWord 55 = .ok (.bipush 99, 2) := by decide +kernel
theorem dX11_kindWord_57 : decode cX11_kindWord 57 = .ok (.bipush 107, 2) := by decide +kernel
theorem dX11_kindWord_59 : decode cX11_kindWord 59 = .ok (.invokestatic 133, 3) := by decide +kernel
theorem dX11_kindWord_62 : decode cX11_kindWord 62 = .ok (.lreturn, 1) := by decide +kernel
theorem dX11_kindWord_63 : decode cX11_kindWord 63 = .ok (.iload_n 0, 1) := by decide +kernel
theorem dX11_kindWord_64 : decode cX11_kindWord 64 = .ok (.iconst 4, 1) := by decide +kernel
theorem dX11_kindWord_65 : decode cX11_kindWord 65 = .ok (.if_icmp .ne 18, 3) := by decide +kernel
theorem dX11_kindWord_68 : decode cX11_kindWord 68 = .ok (.iconst 0, 1) := by decide +kernel
theorem dX11_kindWord_69 : decode cX11_kindWord 69 = .ok (.iconst 0, 1) := by decide +kernel
theorem dX11_kindWord_70 : decode cX11_kindWord 70 = .ok (.iconst 0, 1) := by decide +kernel
theorem dX11_kindWord_71 : decode cX11_kindWord 71 = .ok (.bipush 101, 2) := by decide +kernel
theorem dX11_kindWord_73 : decode cX11_kindWord 73 = .ok (.bipush 100, 2) := by decide +kernel
theorem dX11_kindWord_75 : decode cX11_kindWord 75 = .ok (.bipush 105, 2) := by decide +kernel
theorem dX11_kindWord_77 : decode cX11_kindWord 77 = .ok (.bipush 116, 2) := by decide +kernel
theorem dX11_kindWord_79 : decode cX11_kindWord 79 = .ok (.invokestatic 133, 3) := by decide +kernel
theorem dX11_kindWord_82 : decode cX11_kindWord 82 = .ok (.lreturn, 1) := by decide +kernel
theorem dX11_kindWord_83 : decode cX11_kindWord 83 = .ok (.iload_n 0, 1) := by decide +kernel
theorem dX11_kindWord_84 : decode cX11_kindWord 84 = .ok (.iconst 5, 1) := by decide +kernel
theorem dX11_kindWord_85 : decode cX11_kindWord 85 = .ok (.if_icmp .ne 19, 3) := by decide +kernel
theorem dX11_kindWord_88 : decode cX11_kindWord 88 = .ok (.iconst 0, 1) := by decide +kernel
theorem dX11_kindWord_89 : decode cX11_kindWord 89 = .ok (.iconst 0, 1) := by decide +kernel
theorem dX11_kindWord_90 : decode cX11_kindWord 90 = .ok (.bipush 116, 2) := by decide +kernel
theorem dX11_kindWord_92 : decode cX11_kindWord 92 = .ok (.bipush 97, 2) := by decide +kernel
theorem dX11_kindWord_94 : decode cX11_kindWord 94 = .ok (.bipush 98, 2) := by decide +kernel
theorem dX11_kindWord_96 : decode cX11_kindWord 96 = .ok (.bipush 108, 2) := by decide +kernel
theorem dX11_kindWord_98 : decode cX11_kindWord 98 = .ok (.bipush 101, 2) := by decide +kernel
theorem dX11_kindWord_100 : decode cX11_kindWord 100 = .ok (.invokestatic 133, 3) := by decide +kernel
theorem dX11_kindWord_103 : decode cX11_kindWord 103 = .ok (.lreturn, 1) := by decide +kernel
theorem dX11_kindWord_104 : decode cX11_kindWord 104 = .ok (.iload_n 0, 1) := by decide +kernel
theorem dX11_kindWord_105 : decode cX11_kindWord 105 = .ok (.bipush 6, 2) := by decide +kernel
theorem dX11_kindWord_107 : decode cX11_kindWord 107 = .ok (.if_icmp .ne 19, 3) := by decide +kernel
theorem dX11_kindWord_110 : decode cX11_kindWord 110 = .ok (.iconst 0, 1) := by decide +kernel
theorem dX11_kindWord_111 : decode cX11_kindWord 111 = .ok (.iconst 0, 1) := by decide +kernel
theorem dX11_kindWord_112 : decode cX11_kindWord 112 = .ok (.iconst 0, 1) := by decide +kernel
theorem dX11_kindWord_113 : decode cX11_kindWord 113 = .ok (.iconst 0, 1) := by decide +kernel
theorem dX11_kindWord_114 : decode cX11_kindWord 114 = .ok (.bipush 114, 2) := by decide +kernel
theorem dX11_kindWord_116 : decode cX11_kindWord 116 = .ok (.bipush 111, 2) := by decide +kernel
theorem dX11_kindWord_118 : decode cX11_kindWord 118 = .ok (.bipush 119, 2) := by decide +kernel
theorem dX11_kindWord_120 : decode cX11_kindWord 120 = .ok (.invokestatic 133, 3) := by decide +kernel
theorem dX11_kindWord_123 : decode cX11_kindWord 123 = .ok (.goto 27, 3) := by decide +kernel
theorem dX11_kindWord_126 : decode cX11_kindWord 126 = .ok (.iload_n 0, 1) := by decide +kernel
theorem dX11_kindWord_127 : decode cX11_kindWord 127 = .ok (.bipush 7, 2) := by decide +kernel
theorem dX11_kindWord_129 : decode cX11_kindWord 129 = .ok (.if_icmp .ne 20, 3) := by decide +kernel
theorem dX11_kindWord_132 : decode cX11_kindWord 132 = .ok (.iconst 0, 1) := by decide +kernel
theorem dX11_kindWord_133 : decode cX11_kindWord 133 = .ok (.iconst 0, 1) := by decide +kernel
theorem dX11_kindWord_134 : decode cX11_kindWord 134 = .ok (.iconst 0, 1) := by decide +kernel
theorem dX11_kindWord_135 : decode cX11_kindWord 135 = .ok (.bipush 108, 2) := by decide +kernel
theorem dX11_kindWord_137 : decode cX11_kindWord 137 = .ok (.bipush 105, 2) := by decide +kernel
theorem dX11_kindWord_139 : decode cX11_kindWord 139 = .ok (.bipush 118, 2) := by decide +kernel
theorem dX11_kindWord_141 : decode cX11_kindWord 141 = .ok (.bipush 101, 2) := by decide +kernel
theorem dX11_kindWord_143 : decode cX11_kindWord 143 = .ok (.invokestatic 133, 3) := by decide +kernel
theorem dX11_kindWord_146 : decode cX11_kindWord 146 = .ok (.goto 4, 3) := by decide +kernel
theorem dX11_kindWord_149 : decode cX11_kindWord 149 = .ok (.lconst 0, 1) := by decide +kernel
theorem dX11_kindWord_150 : decode cX11_kindWord 150 = .ok (.lreturn, 1) := by decide +kernel
theorem dX11_kindLetter_0 : decode cX11_kindLetter 0 = .ok (.iload_n 0, 1) := by decide +kernel
theorem dX11_kindLetter_1 : decode cX11_kindLetter 1 = .ok (.invokestatic 137, 3) := by decide +kernel
theorem dX11_kindLetter_4 : decode cX11_kindLetter 4 = .ok (.lstore_n 1, 1) := by decide +kernel
theorem dX11_kindLetter_5 : decode cX11_kindLetter 5 = .ok (.lload_n 1, 1) := by decide +kernel
theorem dX11_kindLetter_6 : decode cX11_kindLetter 6 = .ok (.ldc2_w 141, 3) := by decide +kernel
theorem dX11_kindLetter_9 : decode cX11_kindLetter 9 = .ok (.lcmp, 1) := by decide +kernel
theorem dX11_kindLetter_10 : decode cX11_kindLetter 10 = .ok (.ifCond .le 11, 3) := by decide +kernel
theorem dX11_kindLetter_13 : decode cX11_kindLetter 13 = .ok (.lload_n 1, 1) := by decide +kernel
theorem dX11_kindLetter_14 : decode cX11_kindLetter 14 = .ok (.bipush 7, 2) := by decide +kernel
theorem dX11_kindLetter_16 : decode cX11_kindLetter 16 = .ok (.lshr, 1) := by decide +kernel
theorem dX11_kindLetter_17 : decode cX11_kindLetter 17 = .ok (.lstore_n 1, 1) := by decide +kernel
theorem dX11_kindLetter_18 : decode cX11_kindLetter 18 = .ok (.goto (-13), 3) := by decide +kernel
theorem dX11_kindLetter_21 : decode cX11_kindLetter 21 = .ok (.lload_n 1, 1) := by decide +kernel
theorem dX11_kindLetter_22 : decode cX11_kindLetter 22 = .ok (.lconst 0, 1) := by decide +kernel
theorem dX11_kindLetter_23 : decode cX11_kindLetter 23 = .ok (.lcmp, 1) := by decide +kernel
theorem dX11_kindLetter_24 : decode cX11_kindLetter 24 = .ok (.ifCond .ne 7, 3) := by decide +kernel
theorem dX11_kindLetter_27 : decode cX11_kindLetter 27 = .ok (.iconst (-1), 1) := by decide +kernel
theorem dX11_kindLetter_28 : decode cX11_kindLetter 28 = .ok (.goto 8, 3) := by decide +kernel
theorem dX11_kindLetter_31 : decode cX11_kindLetter 31 = .ok (.lload_n 1, 1) := by decide +kernel
theorem dX11_kindLetter_32 : decode cX11_kindLetter 32 = .ok (.l2i, 1) := by decide +kernel
theorem dX11_kindLetter_33 : decode cX11_kindLetter 33 = .ok (.bipush 97, 2) := by decide +kernel
theorem dX11_kindLetter_35 : decode cX11_kindLetter 35 = .ok (.isub, 1) := by decide +kernel
theorem dX11_kindLetter_36 : decode cX11_kindLetter 36 = .ok (.ireturn, 1) := by decide +kernel
theorem dX11_put_0 : decode cX11_put 0 = .ok (.aload_n 0, 1) := by decide +kernel
theorem dX11_put_1 : decode cX11_put 1 = .ok (.getfield 65, 3) := by decide +kernel
theorem dX11_put_4 : decode cX11_put 4 = .ok (.aload_n 0, 1) := by decide +kernel
theorem dX11_put_5 : decode cX11_put 5 = .ok (.getfield 143, 3) := by decide +kernel
theorem dX11_put_8 : decode cX11_put 8 = .ok (.iload_n 1, 1) := by decide +kernel
theorem dX11_put_9 : decode cX11_put 9 = .ok (.iastore, 1) := by decide +kernel
theorem dX11_put_10 : decode cX11_put 10 = .ok (.aload_n 0, 1) := by decide +kernel
theorem dX11_put_11 : decode cX11_put 11 = .ok (.dup, 1) := by decide +kernel
theorem dX11_put_12 : decode cX11_put 12 = .ok (.getfield 143, 3) := by decide +kernel
theorem dX11_put_15 : decode cX11_put 15 = .ok (.iconst 1, 1) := by decide +kernel
theorem dX11_put_16 : decode cX11_put 16 = .ok (.iadd, 1) := by decide +kernel
theorem dX11_put_17 : decode cX11_put 17 = .ok (.putfield 143, 3) := by decide +kernel
theorem dX11_put_20 : decode cX11_put 20 = .ok (.return_, 1) := by decide +kernel
theorem dX11_gap_0 : decode cX11_gap 0 = .ok (.aload_n 0, 1) := by decide +kernel
theorem dX11_gap_1 : decode cX11_gap 1 = .ok (.getfield 143, 3) := by decide +kernel
theorem dX11_gap_4 : decode cX11_gap 4 = .ok (.ifCond .le 9, 3) := by decide +kernel
theorem dX11_gap_7 : decode cX11_gap 7 = .ok (.aload_n 0, 1) := by decide +kernel
theorem dX11_gap_8 : decode cX11_gap 8 = .ok (.bipush 32, 2) := by decide +kernel
theorem dX11_gap_10 : decode cX11_gap 10 = .ok (.invokevirtual 146, 3) := by decide +kernel
theorem dX11_gap_13 : decode cX11_gap 13 = .ok (.return_, 1) := by decide +kernel
theorem dX11_partWord_0 : decode cX11_partWord 0 = .ok (.lload_n 1, 1) := by decide +kernel
theorem dX11_partWord_1 : decode cX11_partWord 1 = .ok (.lconst 0, 1) := by decide +kernel
theorem dX11_partWord_2 : decode cX11_partWord 2 = .ok (.lcmp, 1) := by decide +kernel
theorem dX11_partWord_3 : decode cX11_partWord 3 = .ok (.ifCond .le 7, 3) := by decide +kernel
theorem dX11_partWord_6 : decode cX11_partWord 6 = .ok (.aload_n 0, 1) := by decide +kernel
theorem dX11_partWord_7 : decode cX11_partWord 7 = .ok (.invokevirtual 150, 3) := by decide +kernel
theorem dX11_partWord_10 : decode cX11_partWord 10 = .ok (.bipush 42, 2) := by decide +kernel
theorem dX11_partWord_12 : decode cX11_partWord 12 = .ok (.istore_n 3, 1) := by decide +kernel
theorem dX11_partWord_13 : decode cX11_partWord 13 = .ok (.iload_n 3, 1) := by decide +kernel
theorem dX11_partWord_14 : decode cX11_partWord 14 = .ok (.ifCond .lt 33, 3) := by decide +kernel
theorem dX11_partWord_17 : decode cX11_partWord 17 = .ok (.lload_n 1, 1) := by decide +kernel
theorem dX11_partWord_18 : decode cX11_partWord 18 = .ok (.iload_n 3, 1) := by decide +kernel
theorem dX11_partWord_19 : decode cX11_partWord 19 = .ok (.lshr, 1) := by decide +kernel
theorem dX11_partWord_20 : decode cX11_partWord 20 = .ok (.ldc2_w 141, 3) := by decide +kernel
theorem dX11_partWord_23 : decode cX11_partWord 23 = .ok (.land, 1) := by decide +kernel
theorem dX11_partWord_24 : decode cX11_partWord 24 = .ok (.lconst 0, 1) := by decide +kernel
theorem dX11_partWord_25 : decode cX11_partWord 25 = .ok (.lcmp, 1) := by decide +kernel
theorem dX11_partWord_26 : decode cX11_partWord 26 = .ok (.ifCond .le 15, 3) := by decide +kernel
theorem dX11_partWord_29 : decode cX11_partWord 29 = .ok (.aload_n 0, 1) := by decide +kernel
theorem dX11_partWord_30 : decode cX11_partWord 30 = .ok (.lload_n 1, 1) := by decide +kernel
theorem dX11_partWord_31 : decode cX11_partWord 31 = .ok (.iload_n 3, 1) := by decide +kernel
theorem dX11_partWord_32 : decode cX11_partWord 32 = .ok (.lshr, 1) := by decide +kernel
theorem dX11_partWord_33 : decode cX11_partWord 33 = .ok (.ldc2_w 141, 3) := by decide +kernel
theorem dX11_partWord_36 : decode cX11_partWord 36 = .ok (.land, 1) := by decide +kernel
theorem dX11_partWord_37 : decode cX11_partWord 37 = .ok (.l2i, 1) := by decide +kernel
theorem dX11_partWord_38 : decode cX11_partWord 38 = .ok (.invokevirtual 146, 3) := by decide +kernel
theorem dX11_partWord_41 : decode cX11_partWord 41 = .ok (.iinc 3 (-7), 3) := by decide +kernel
theorem dX11_partWord_44 : decode cX11_partWord 44 = .ok (.goto (-31), 3) := by decide +kernel
theorem dX11_partWord_47 : decode cX11_partWord 47 = .ok (.return_, 1) := by decide +kernel
abbrev mX11_layOrder : gM := (yX11_layOrder, cX11_layOrder, 4, (Option.none : Option FieldType), [])
theorem caX11_layOrder : cal mX11_layOrder 0 := ⟨xw 1825 (by decide +kernel) rfl, xw 102 (by decide +kernel) rfl, by decide, by decide +kernel⟩
theorem cvX11_layOrder : calV mX11_layOrder := ⟨xw 1824 (by decide +kernel) rfl, xw 61 (by decide +kernel) rfl⟩
abbrev mX11_layCursor : gM := (yX11_layCursor, cX11_layCursor, 2, (Option.some FieldType.int), [])
theorem caX11_layCursor : cal mX11_layCursor 0 := ⟨xw 1856 (by decide +kernel) rfl, xw 102 (by decide +kernel) rfl, by decide, by decide +kernel⟩
theorem cvX11_layCursor : calV mX11_layCursor := ⟨xw 1855 (by decide +kernel) rfl, xw 65 (by decide +kernel) rfl⟩
abbrev mX11_word : gM := (yX11_word, cX11_word, 9, (Option.some FieldType.long), [])
theorem caX11_word : cal mX11_word 7 := ⟨xw 1632 (by decide +kernel) rfl, xw 102 (by decide +kernel) rfl, by decide, by decide +kernel⟩
theorem csX11_word : Cond.static yX11_word ∈ XW := xw 1631 (by decide +kernel) rfl
abbrev mX11_kindWord : gM := (yX11_kindWord, cX11_kindWord, 1, (Option.some FieldType.long), [])
theorem caX11_kindWord : cal mX11_kindWord 1 := ⟨xw 1629 (by decide +kernel) rfl, xw 102 (by decide +kernel) rfl, by decide, by decide +kernel⟩
theorem csX11_kindWord : Cond.static yX11_kindWord ∈ XW := xw 1628 (by decide +kernel) rfl
abbrev mX11_kindLetter : gM := (yX11_kindLetter, cX11_kindLetter, 3, (Option.some FieldType.int), [])
theorem caX11_kindLetter : cal mX11_kindLetter 1 := ⟨xw 1689 (by decide +kernel) rfl, xw 102 (by decide +kernel) rfl, by decide, by decide +kernel⟩
theorem csX11_kindLetter : Cond.static yX11_kindLetter ∈ XW := xw 1688 (by decide +kernel) rfl
abbrev mX11_put : gM := (yX11_put, cX11_put, 2, (Option.none : Option FieldType), [])
theorem caX11_put : cal mX11_put 1 := ⟨xw 1626 (by decide +kernel) rfl, xw 102 (by decide +kernel) rfl, by decide, by decide +kernel⟩
theorem cvX11_put : calV mX11_put := ⟨xw 1625 (by decide +kernel) rfl, xw 37 (by decide +kernel) rfl⟩
abbrev mX11_gap : gM := (yX11_gap, cX11_gap, 1, (Option.none : Option FieldType), [])
theorem caX11_gap : cal mX11_gap 0 := ⟨xw 1622 (by decide +kernel) rfl, xw 102 (by decide +kernel) rfl, by decide, by decide +kernel⟩
theorem cvX11_gap : calV mX11_gap := ⟨xw 1621 (by decide +kernel) rfl, xw 36 (by decide +kernel) rfl⟩
abbrev mX11_partWord : gM := (yX11_partWord, cX11_partWord, 4, (Option.none : Option FieldType), [])
theorem caX11_partWord : cal mX11_partWord 1 := ⟨xw 1637 (by decide +kernel) rfl, xw 102 (by decide +kernel) rfl, by decide, by decide +kernel⟩
theorem cvX11_partWord : calV mX11_partWord := ⟨xw 1636 (by decide +kernel) rfl, xw 38 (by decide +kernel) rfl⟩
theorem flX11_122 : fl RX11 122 10 50 := ⟨by decide, by decide, xw 1447 (by decide +kernel) rfl⟩
theorem lkX11_125 : Cond.methodLink RX11 125 yX11_layOrder ∈ XW := xw 1822 (by decide +kernel) rfl
theorem flX11_128 : fl RX11 128 10 20 := ⟨by decide, by decide, xw 1417 (by decide +kernel) rfl⟩
theorem clX11_131 : Cond.constantLong RX11 131 (128 : Int64) ∈ XW := xw 1633 (by decide +kernel) rfl
theorem lkX11_133 : Cond.methodLink RX11 133 yX11_word ∈ XW := xw 1630 (by decide +kernel) rfl
theorem lkX11_137 : Cond.methodLink RX11 137 yX11_kindWord ∈ XW := xw 1627 (by decide +kernel) rfl
theorem clX11_141 : Cond.constantLong RX11 141 (127 : Int64) ∈ XW := xw 1638 (by decide +kernel) rfl
theorem flX11_143 : fl RX11 143 10 29 := ⟨by decide, by decide, xw 1426 (by decide +kernel) rfl⟩
theorem lkX11_146 : Cond.methodLink RX11 146 yX11_put ∈ XW := xw 1623 (by decide +kernel) rfl
theorem lkX11_150 : Cond.methodLink RX11 150 yX11_gap ∈ XW := xw 1619 (by decide +kernel) rfl
/-! BrailleDeskModel.layOrder -/
theorem lX11_layOrder_66 {G : gG} {Q : hQ} {P : (Int32 × mm) → Prop} {k n : Nat} (a0 : Nat) (h : hp) (c2 : Int32) (hJ : ∀ q : (Int32 × mm), P q → gV G mX11_layOrder 0 Q 96 [some (sr (some a0)), some (si q.1), none, none] [] (k) (n) (jn a0 h q.2)) : ∀ (fu : Nat) (a : (Int32 × Int32 × mm)), okB (itr (fX11_layOrder_B66 c2) fu a) P → gV G mX11_layOrder 0 Q 66 [some (sr (some a0)), some (si a.1), some (si c2), some (si a.2.1)] [] (k) (n) (jn a0 h a.2.2) :=
  lpg (X := fun (a : (Int32 × Int32 × mm)) => gV G mX11_layOrder 0 Q 66 [some (sr (some a0)), some (si a.1), some (si c2), some (si a.2.1)] [] (k) (n) (jn a0 h a.2.2)) (fun a P2 hL hE hF => by
    delta fX11_layOrder_B66 at hF
    refine v_iload_n (pc := 66) (i := 3) dX11_layOrder_66 rfl rfl ?_
    refine v_if_lt (pc := 67) 96 dX11_layOrder_67 rfl (fun hc => ?_) (fun hc => ?_)
    · replace hF := (okB_if hF).1 hc
      exact v_lle [some (sr (some a0)), some (si a.1), none, none] ⟨rfl, rfl, trivial⟩ (hJ (a.1, a.2.2) (hE _ (okB_some hF)))
    replace hF := (okB_if hF).2 hc
    refine v_aload_n (pc := 70) (i := 0) dX11_layOrder_70 rfl rfl ?_
    refine m_getA (pc := 71) (j := 51) dX11_layOrder_71 flX11_95 rfl (by decide) ?_
    refine v_iload_n (pc := 74) (i := 1) dX11_layOrder_74 rfl rfl ?_
    refine v_aload_n (pc := 75) (i := 0) dX11_layOrder_75 rfl rfl ?_
    refine m_getA (pc := 76) (j := 4) dX11_layOrder_76 flX11_20 rfl (by decide) ?_
    refine v_bipush (pc := 79) (v := (10 : Int32)) dX11_layOrder_79 rfl ?_
    refine v_iload_n (pc := 81) (i := 2) dX11_layOrder_81 rfl rfl ?_
    refine v_imul (pc := 82) dX11_layOrder_82 ?_
    refine v_iload_n (pc := 83) (i := 3) dX11_layOrder_83 rfl rfl ?_
    refine v_iadd (pc := 84) dX11_layOrder_84 ?_
    refine m_iald (pc := 85) (j := 4) dX11_layOrder_85 hF (fun x1 hF => ?_)
    refine m_iast (pc := 86) (j := 51) dX11_layOrder_86 hF (fun m2 hF => ?_)
    refine v_iinc (pc := 87) (i := 1) (a.1 + (1 : Int32)) [some (sr (some a0)), some (si (a.1 + (1 : Int32))), some (si c2), some (si a.2.1)] dX11_layOrder_87 rfl rfl rfl rfl ?_
    refine v_iinc (pc := 90) (i := 3) (a.2.1 + (-1 : Int32)) [some (sr (some a0)), some (si (a.1 + (1 : Int32))), some (si c2), some (si (a.2.1 + (-1 : Int32)))] dX11_layOrder_90 rfl rfl rfl rfl ?_
    refine v_goto (pc := 93) 66 dX11_layOrder_93 rfl ?_
    exact v_lle [some (sr (some a0)), some (si (a.1 + (1 : Int32))), some (si c2), some (si (a.2.1 + (-1 : Int32)))] ⟨rfl, rfl, rfl, rfl, trivial⟩ (hL (a.1 + (1 : Int32), a.2.1 + (-1 : Int32), m2) (okB_some hF)))
theorem lX11_layOrder_14 {G : gG} {Q : hQ} {P : mm → Prop} {k n : Nat} (a0 : Nat) (h : hp) (hJ : ∀ q : mm, P q → gV G mX11_layOrder 0 Q 99 [none, none, none, none] [] (k) (n) (jn a0 h q)) : ∀ (fu : Nat) (a : (Int32 × mm)), okB (itr (fX11_layOrder_B14) fu a) P → gV G mX11_layOrder 0 Q 14 [some (sr (some a0)), some (si a.1), none, none] [] (k) (n) (jn a0 h a.2) :=
  lpg (X := fun (a : (Int32 × mm)) => gV G mX11_layOrder 0 Q 14 [some (sr (some a0)), some (si a.1), none, none] [] (k) (n) (jn a0 h a.2)) (fun a P2 hL hE hF => by
    delta fX11_layOrder_B14 at hF
    refine v_iload_n (pc := 14) (i := 1) dX11_layOrder_14 rfl rfl ?_
    refine v_if_le (pc := 15) 99 dX11_layOrder_15 rfl (fun hc => ?_) (fun hc => ?_)
    · replace hF := (okB_if hF).1 hc
      exact v_lle [none, none, none, none] trivial (hJ a.2 (hE _ (okB_some hF)))
    replace hF := (okB_if hF).2 hc
    refine v_iinc (pc := 18) (i := 1) (a.1 + (-1 : Int32)) [some (sr (some a0)), some (si (a.1 + (-1 : Int32))), none, none] dX11_layOrder_18 rfl rfl rfl rfl ?_
    refine v_aload_n (pc := 21) (i := 0) dX11_layOrder_21 rfl rfl ?_
    refine m_getA (pc := 22) (j := 51) dX11_layOrder_22 flX11_95 rfl (by decide) ?_
    refine v_iload_n (pc := 25) (i := 1) dX11_layOrder_25 rfl rfl ?_
    refine m_iald (pc := 26) (j := 51) dX11_layOrder_26 hF (fun x1 hF => ?_)
    refine v_istore_n (pc := 27) (i := 2) [some (sr (some a0)), some (si (a.1 + (-1 : Int32))), some (si x1), none] dX11_layOrder_27 rfl (by decide) rfl rfl ?_
    refine v_aload_n (pc := 28) (i := 0) dX11_layOrder_28 rfl rfl ?_
    refine m_getA (pc := 29) (j := 12) dX11_layOrder_29 flX11_44 rfl (by decide) ?_
    refine v_iload_n (pc := 32) (i := 2) dX11_layOrder_32 rfl rfl ?_
    refine m_zald (pc := 33) (j := 12) dX11_layOrder_33 hF (fun x2 hF => ?_)
    refine v_if_ne (pc := 34) 96 dX11_layOrder_34 rfl (fun hc => ?_) (fun hc => ?_)
    · replace hF := (okB_if hF).2 hc
      refine v_goto (pc := 96) 14 dX11_layOrder_96 rfl ?_
      exact v_lle [some (sr (some a0)), some (si (a.1 + (-1 : Int32))), none, none] ⟨rfl, rfl, trivial⟩ (hL (a.1 + (-1 : Int32), a.2) (okB_some hF))
    replace hF := (okB_if hF).1 hc
    refine v_aload_n (pc := 37) (i := 0) dX11_layOrder_37 rfl rfl ?_
    refine m_getA (pc := 38) (j := 49) dX11_layOrder_38 flX11_92 rfl (by decide) ?_
    refine v_aload_n (pc := 41) (i := 0) dX11_layOrder_41 rfl rfl ?_
    refine m_getI (pc := 42) (j := 50) dX11_layOrder_42 flX11_122 rfl rfl ?_
    refine v_iload_n (pc := 45) (i := 2) dX11_layOrder_45 rfl rfl ?_
    refine m_iast (pc := 46) (j := 49) dX11_layOrder_46 hF (fun m3 hF => ?_)
    refine v_aload_n (pc := 47) (i := 0) dX11_layOrder_47 rfl rfl ?_
    refine v_dup (pc := 48) dX11_layOrder_48 rfl ?_
    refine m_getI (pc := 49) (j := 50) dX11_layOrder_49 flX11_122 rfl rfl ?_
    refine v_iconst (pc := 52) (v := (1 : Int32)) dX11_layOrder_52 rfl ?_
    refine v_iadd (pc := 53) dX11_layOrder_53 ?_
    refine m_putI (pc := 54) (j := 50) dX11_layOrder_54 flX11_122 rfl rfl rfl hF (fun m4 hF => ?_)
    refine v_aload_n (pc := 57) (i := 0) dX11_layOrder_57 rfl rfl ?_
    refine m_getA (pc := 58) (j := 5) dX11_layOrder_58 flX11_23 rfl (by decide) ?_
    refine v_iload_n (pc := 61) (i := 2) dX11_layOrder_61 rfl rfl ?_
    refine m_iald (pc := 62) (j := 5) dX11_layOrder_62 hF (fun x5 hF => ?_)
    refine v_iconst (pc := 63) (v := (1 : Int32)) dX11_layOrder_63 rfl ?_
    refine v_isub (pc := 64) dX11_layOrder_64 ?_
    refine v_istore_n (pc := 65) (i := 3) [some (sr (some a0)), some (si (a.1 + (-1 : Int32))), some (si x1), some (si (x5 - (1 : Int32)))] dX11_layOrder_65 rfl (by decide) rfl rfl ?_
    refine mg (X := fun q6 => gV G mX11_layOrder 0 Q 96 [some (sr (some a0)), some (si q6.1), none, none] [] (k) (n) (jn a0 h q6.2)) hF (fun _ hj7 hF => v_lle [some (sr (some a0)), some (si (a.1 + (-1 : Int32))), some (si x1), some (si (x5 - (1 : Int32)))] ⟨rfl, rfl, rfl, rfl, trivial⟩ (lX11_layOrder_66 a0 h x1 hj7 FU (a.1 + (-1 : Int32), x5 - (1 : Int32), m4) hF)) (fun q6 hF => ?_)
    refine v_goto (pc := 96) 14 dX11_layOrder_96 rfl ?_
    exact v_lle [some (sr (some a0)), some (si q6.1), none, none] ⟨rfl, rfl, trivial⟩ (hL (q6.1, q6.2) (okB_some hF)))
theorem tX11_layOrder {G : gG} (a0 : Nat) (h : hp)  (m : mm) (Q : hQ) (hF : okB (fX11_layOrder m) (pM gU Q a0 h)) : gS G mX11_layOrder 0 0 0 [sr (some a0)] (jn a0 h m) Q := by
  delta fX11_layOrder at hF
  refine gS_at [some (sr (some a0)), none, none, none] pl_X11 rfl (Nat.le_of_ble_eq_true rfl) rfl ?_
  refine v_iconst (pc := 0) (v := (1 : Int32)) dX11_layOrder_0 rfl ?_
  refine v_istore_n (pc := 1) (i := 1) [some (sr (some a0)), some (si (1 : Int32)), none, none] dX11_layOrder_1 rfl (by decide) rfl rfl ?_
  refine v_aload_n (pc := 2) (i := 0) dX11_layOrder_2 rfl rfl ?_
  refine m_getA (pc := 3) (j := 51) dX11_layOrder_3 flX11_95 rfl (by decide) ?_
  refine v_iconst (pc := 6) (v := (0 : Int32)) dX11_layOrder_6 rfl ?_
  refine v_iconst (pc := 7) (v := (0 : Int32)) dX11_layOrder_7 rfl ?_
  refine m_iast (pc := 8) (j := 51) dX11_layOrder_8 hF (fun m1 hF => ?_)
  refine v_aload_n (pc := 9) (i := 0) dX11_layOrder_9 rfl rfl ?_
  refine v_iconst (pc := 10) (v := (0 : Int32)) dX11_layOrder_10 rfl ?_
  refine m_putI (pc := 11) (j := 50) dX11_layOrder_11 flX11_122 rfl rfl rfl hF (fun m2 hF => ?_)
  refine mg (X := fun q3 => gV G mX11_layOrder 0 Q 99 [none, none, none, none] [] (0) (0) (jn a0 h q3)) hF (fun _ hj4 hF => v_lle [some (sr (some a0)), some (si (1 : Int32)), none, none] ⟨rfl, rfl, trivial⟩ (lX11_layOrder_14 a0 h hj4 FU ((1 : Int32), m2) hF)) (fun q3 hF => ?_)
  exact v_ret (pc := 99) dX11_layOrder_99 rfl (okr hF fun q => q)
/-! BrailleDeskModel.layCursor -/
theorem lX11_layCursor_6 {G : gG} {Q : hQ} {P : Int32 → Prop} {k n : Nat} (a0 : Nat) (h : hp) (m : mm) (hJ : ∀ q : Int32, P q → gV G mX11_layCursor 1 Q 25 [none, some (si q)] [] (k) (n) (jn a0 h m)) : ∀ (fu : Nat) (a : Int32), okB (itr (fX11_layCursor_B6 m) fu a) P → gV G mX11_layCursor 1 Q 6 [some (sr (some a0)), some (si a)] [] (k) (n) (jn a0 h m) :=
  lpg (X := fun (a : Int32) => gV G mX11_layCursor 1 Q 6 [some (sr (some a0)), some (si a)] [] (k) (n) (jn a0 h m)) (fun a P2 hL hE hF => by
    delta fX11_layCursor_B6 at hF
    refine v_aload_n (pc := 6) (i := 0) dX11_layCursor_6 rfl rfl ?_
    refine m_getA (pc := 7) (j := 49) dX11_layCursor_7 flX11_92 rfl (by decide) ?_
    refine v_iload_n (pc := 10) (i := 1) dX11_layCursor_10 rfl rfl ?_
    refine m_iald (pc := 11) (j := 49) dX11_layCursor_11 hF (fun x1 hF => ?_)
    refine v_aload_n (pc := 12) (i := 0) dX11_layCursor_12 rfl rfl ?_
    refine m_getI (pc := 13) (j := 20) dX11_layCursor_13 flX11_128 rfl rfl ?_
    refine v_icmp_eq (pc := 16) 25 dX11_layCursor_16 rfl (fun hc => ?_) (fun hc => ?_)
    · replace hF := (okB_if hF).1 hc
      exact v_lle [none, some (si a)] ⟨rfl, trivial⟩ (hJ a (hE _ (okB_some hF)))
    replace hF := (okB_if hF).2 hc
    refine v_iinc (pc := 19) (i := 1) (a + (1 : Int32)) [some (sr (some a0)), some (si (a + (1 : Int32)))] dX11_layCursor_19 rfl rfl rfl rfl ?_
    refine v_goto (pc := 22) 6 dX11_layCursor_22 rfl ?_
    exact v_lle [some (sr (some a0)), some (si (a + (1 : Int32)))] ⟨rfl, rfl, trivial⟩ (hL (a + (1 : Int32)) (okB_some hF)))
theorem tX11_layCursor {G : gG} (a0 : Nat) (h : hp)  (m : mm) (Q : hQ) (hF : okB (fX11_layCursor m) (pM gI Q a0 h)) : gS G mX11_layCursor 1 0 0 [sr (some a0)] (jn a0 h m) Q := by
  delta fX11_layCursor at hF
  refine gS_at [some (sr (some a0)), none] pl_X11 rfl (Nat.le_of_ble_eq_true rfl) rfl ?_
  refine v_aload_n (pc := 0) (i := 0) dX11_layCursor_0 rfl rfl ?_
  refine chM_V (pc := 1) gU (as := []) (st := []) (N := mX11_layOrder) (k := 0) (n := 0) (k1 := 0) (n1 := 0) dX11_layCursor_1 lkX11_125 caX11_layOrder cvX11_layOrder rfl rfl (fun Q1 hq => tX11_layOrder a0 h m Q1 hq) ⟨by decide, by decide⟩ (Nat.le_of_ble_eq_true rfl) rfl hF (fun x1 m2 hF => ?_)
  show gV G mX11_layCursor 1 Q 4 [some (sr (some a0)), none] [] (0) (0) (jn a0 h m2)
  refine v_iconst (pc := 4) (v := (0 : Int32)) dX11_layCursor_4 rfl ?_
  refine v_istore_n (pc := 5) (i := 1) [some (sr (some a0)), some (si (0 : Int32))] dX11_layCursor_5 rfl (by decide) rfl rfl ?_
  refine mg (X := fun q3 => gV G mX11_layCursor 1 Q 25 [none, some (si q3)] [] (0) (0) (jn a0 h m2)) hF (fun _ hj4 hF => v_lle [some (sr (some a0)), some (si (0 : Int32))] ⟨rfl, rfl, trivial⟩ (lX11_layCursor_6 a0 h m2 hj4 FU (0 : Int32) hF)) (fun q3 hF => ?_)
  refine v_iload_n (pc := 25) (i := 1) dX11_layCursor_25 rfl rfl ?_
  exact v_iret (pc := 26) dX11_layCursor_26 rfl rfl (okr hF fun q => q)
/-! BrailleDeskModel.word -/
theorem tX11_word {G : gG} (a0 : Int32) (a1 : Int32) (a2 : Int32) (a3 : Int32) (a4 : Int32) (a5 : Int32) (a6 : Int32) (h : hp) (Q : hQ) (hF : okB (fX11_word a0 a1 a2 a3 a4 a5 a6) (pP gL Q h)) : gS G mX11_word 0 0 0 [si a0, si a1, si a2, si a3, si a4, si a5, si a6] h Q := by
  delta fX11_word at hF
  refine gS_at [some (si a0), some (si a1), some (si a2), some (si a3), some (si a4), some (si a5), some (si a6), none, none] pl_X11 rfl (Nat.le_of_ble_eq_true rfl) rfl ?_
  refine v_iload_n (pc := 0) (i := 0) dX11_word_0 rfl rfl ?_
  refine v_i2l (pc := 1) dX11_word_1 ?_
  refine v_ldc2 (pc := 2) (v := (128 : Int64)) dX11_word_2 clX11_131 ?_
  refine v_lmul (pc := 5) dX11_word_5 ?_
  refine v_iload_n (pc := 6) (i := 1) dX11_word_6 rfl rfl ?_
  refine v_i2l (pc := 7) dX11_word_7 ?_
  refine v_ladd (pc := 8) dX11_word_8 ?_
  refine v_ldc2 (pc := 9) (v := (128 : Int64)) dX11_word_9 clX11_131 ?_
  refine v_lmul (pc := 12) dX11_word_12 ?_
  refine v_iload_n (pc := 13) (i := 2) dX11_word_13 rfl rfl ?_
  refine v_i2l (pc := 14) dX11_word_14 ?_
  refine v_ladd (pc := 15) dX11_word_15 ?_
  refine v_lstore (pc := 16) (i := 7) [some (si a0), some (si a1), some (si a2), some (si a3), some (si a4), some (si a5), some (si a6), some (sl ((((a0.toInt64 * (128 : Int64)) + a1.toInt64) * (128 : Int64)) + a2.toInt64)), none] dX11_word_16 (by decide) rfl rfl ?_
  refine v_lload (pc := 18) (i := 7) dX11_word_18 rfl ?_
  refine v_ldc2 (pc := 20) (v := (128 : Int64)) dX11_word_20 clX11_131 ?_
  refine v_lmul (pc := 23) dX11_word_23 ?_
  refine v_iload_n (pc := 24) (i := 3) dX11_word_24 rfl rfl ?_
  refine v_i2l (pc := 25) dX11_word_25 ?_
  refine v_ladd (pc := 26) dX11_word_26 ?_
  refine v_ldc2 (pc := 27) (v := (128 : Int64)) dX11_word_27 clX11_131 ?_
  refine v_lmul (pc := 30) dX11_word_30 ?_
  refine v_iload (pc := 31) (i := 4) dX11_word_31 rfl ?_
  refine v_i2l (pc := 33) dX11_word_33 ?_
  refine v_ladd (pc := 34) dX11_word_34 ?_
  refine v_ldc2 (pc := 35) (v := (128 : Int64)) dX11_word_35 clX11_131 ?_
  refine v_lmul (pc := 38) dX11_word_38 ?_
  refine v_iload (pc := 39) (i := 5) dX11_word_39 rfl ?_
  refine v_i2l (pc := 41) dX11_word_41 ?_
  refine v_ladd (pc := 42) dX11_word_42 ?_
  refine v_ldc2 (pc := 43) (v := (128 : Int64)) dX11_word_43 clX11_131 ?_
  refine v_lmul (pc := 46) dX11_word_46 ?_
  refine v_iload (pc := 47) (i := 6) dX11_word_47 rfl ?_
  refine v_i2l (pc := 49) dX11_word_49 ?_
  refine v_ladd (pc := 50) dX11_word_50 ?_
  exact v_lret (pc := 51) dX11_word_51 rfl (okr hF fun q => q)
/-! BrailleDeskModel.kindWord -/
theorem tX11_kindWord {G : gG} (a0 : Int32) (h : hp) (Q : hQ) (hF : okB (fX11_kindWord a0) (pP gL Q h)) : gS G mX11_kindWord 1 0 0 [si a0] h Q := by
  delta fX11_kindWord at hF
  refine gS_at [some (si a0)] pl_X11 rfl (Nat.le_of_ble_eq_true rfl) rfl ?_
  refine v_iload_n (pc := 0) (i := 0) dX11_kindWord_0 rfl rfl ?_
  refine v_if_ne (pc := 1) 20 dX11_kindWord_1 rfl (fun hc => ?_) (fun hc => ?_)
  · replace hF := (okB_if hF).2 hc
    refine v_iload_n (pc := 20) (i := 0) dX11_kindWord_20 rfl rfl ?_
    refine v_iconst (pc := 21) (v := (2 : Int32)) dX11_kindWord_21 rfl ?_
    refine v_icmp_ne (pc := 22) 42 dX11_kindWord_22 rfl (fun hc => ?_) (fun hc => ?_)
    · replace hF := (okB_if hF).2 hc
      refine v_iload_n (pc := 42) (i := 0) dX11_kindWord_42 rfl rfl ?_
      refine v_iconst (pc := 43) (v := (3 : Int32)) dX11_kindWord_43 rfl ?_
      refine v_icmp_ne (pc := 44) 63 dX11_kindWord_44 rfl (fun hc => ?_) (fun hc => ?_)
      · replace hF := (okB_if hF).2 hc
        refine v_iload_n (pc := 63) (i := 0) dX11_kindWord_63 rfl rfl ?_
        refine v_iconst (pc := 64) (v := (4 : Int32)) dX11_kindWord_64 rfl ?_
        refine v_icmp_ne (pc := 65) 83 dX11_kindWord_65 rfl (fun hc => ?_) (fun hc => ?_)
        · replace hF := (okB_if hF).2 hc
          refine v_iload_n (pc := 83) (i := 0) dX11_kindWord_83 rfl rfl ?_
          refine v_iconst (pc := 84) (v := (5 : Int32)) dX11_kindWord_84 rfl ?_
          refine v_icmp_ne (pc := 85) 104 dX11_kindWord_85 rfl (fun hc => ?_) (fun hc => ?_)
          · replace hF := (okB_if hF).2 hc
            refine v_iload_n (pc := 104) (i := 0) dX11_kindWord_104 rfl rfl ?_
            refine v_bipush (pc := 105) (v := (6 : Int32)) dX11_kindWord_105 rfl ?_
            refine v_icmp_ne (pc := 107) 126 dX11_kindWord_107 rfl (fun hc => ?_) (fun hc => ?_)
            · replace hF := (okB_if hF).2 hc
              refine v_iload_n (pc := 126) (i := 0) dX11_kindWord_126 rfl rfl ?_
              refine v_bipush (pc := 127) (v := (7 : Int32)) dX11_kindWord_127 rfl ?_
              refine v_icmp_ne (pc := 129) 149 dX11_kindWord_129 rfl (fun hc => ?_) (fun hc => ?_)
              · replace hF := (okB_if hF).2 hc
                refine v_lconst (pc := 149) (v := (0 : Int64)) dX11_kindWord_149 rfl ?_
                exact v_lret (pc := 150) dX11_kindWord_150 rfl (okr hF fun q => q)
              replace hF := (okB_if hF).1 hc
              refine v_iconst (pc := 132) (v := (0 : Int32)) dX11_kindWord_132 rfl ?_
              refine v_iconst (pc := 133) (v := (0 : Int32)) dX11_kindWord_133 rfl ?_
              refine v_iconst (pc := 134) (v := (0 : Int32)) dX11_kindWord_134 rfl ?_
              refine v_bipush (pc := 135) (v := (108 : Int32)) dX11_kindWord_135 rfl ?_
              refine v_bipush (pc := 137) (v := (105 : Int32)) dX11_kindWord_137 rfl ?_
              refine v_bipush (pc := 139) (v := (118 : Int32)) dX11_kindWord_139 rfl ?_
              refine v_bipush (pc := 141) (v := (101 : Int32)) dX11_kindWord_141 rfl ?_
              refine cp_S (pc := 143) gL (as := [si (0 : Int32), si (0 : Int32), si (0 : Int32), si (108 : Int32), si (105 : Int32), si (118 : Int32), si (101 : Int32)]) (st := []) (N := mX11_word) (k := 0) (n := 0) (k1 := 0) (n1 := 0) dX11_kindWord_143 lkX11_133 caX11_word csX11_word rfl (fun Q1 hq => tX11_word (0 : Int32) (0 : Int32) (0 : Int32) (108 : Int32) (105 : Int32) (118 : Int32) (101 : Int32) h Q1 hq) ⟨by decide, by decide⟩ (Nat.le_of_ble_eq_true rfl) rfl hF (fun x1 hF => ?_)
              show gV G mX11_kindWord 1 Q 146 [some (si a0)] [sl x1] (0) (0) h
              refine v_goto (pc := 146) 150 dX11_kindWord_146 rfl ?_
              exact v_lret (pc := 150) dX11_kindWord_150 rfl (okr hF fun q => q)
            replace hF := (okB_if hF).1 hc
            refine v_iconst (pc := 110) (v := (0 : Int32)) dX11_kindWord_110 rfl ?_
            refine v_iconst (pc := 111) (v := (0 : Int32)) dX11_kindWord_111 rfl ?_
            refine v_iconst (pc := 112) (v := (0 : Int32)) dX11_kindWord_112 rfl ?_
            refine v_iconst (pc := 113) (v := (0 : Int32)) dX11_kindWord_113 rfl ?_
            refine v_bipush (pc := 114) (v := (114 : Int32)) dX11_kindWord_114 rfl ?_
            refine v_bipush (pc := 116) (v := (111 : Int32)) dX11_kindWord_116 rfl ?_
            refine v_bipush (pc := 118) (v := (119 : Int32)) dX11_kindWord_118 rfl ?_
            refine cp_S (pc := 120) gL (as := [si (0 : Int32), si (0 : Int32), si (0 : Int32), si (0 : Int32), si (114 : Int32), si (111 : Int32), si (119 : Int32)]) (st := []) (N := mX11_word) (k := 0) (n := 0) (k1 := 0) (n1 := 0) dX11_kindWord_120 lkX11_133 caX11_word csX11_word rfl (fun Q1 hq => tX11_word (0 : Int32) (0 : Int32) (0 : Int32) (0 : Int32) (114 : Int32) (111 : Int32) (119 : Int32) h Q1 hq) ⟨by decide, by decide⟩ (Nat.le_of_ble_eq_true rfl) rfl hF (fun x2 hF => ?_)
            show gV G mX11_kindWord 1 Q 123 [some (si a0)] [sl x2] (0) (0) h
            refine v_goto (pc := 123) 150 dX11_kindWord_123 rfl ?_
            exact v_lret (pc := 150) dX11_kindWord_150 rfl (okr hF fun q => q)
          replace hF := (okB_if hF).1 hc
          refine v_iconst (pc := 88) (v := (0 : Int32)) dX11_kindWord_88 rfl ?_
          refine v_iconst (pc := 89) (v := (0 : Int32)) dX11_kindWord_89 rfl ?_
          refine v_bipush (pc := 90) (v := (116 : Int32)) dX11_kindWord_90 rfl ?_
          refine v_bipush (pc := 92) (v := (97 : Int32)) dX11_kindWord_92 rfl ?_
          refine v_bipush (pc := 94) (v := (98 : Int32)) dX11_kindWord_94 rfl ?_
          refine v_bipush (pc := 96) (v := (108 : Int32)) dX11_kindWord_96 rfl ?_
          refine v_bipush (pc := 98) (v := (101 : Int32)) dX11_kindWord_98 rfl ?_
          refine cp_S (pc := 100) gL (as := [si (0 : Int32), si (0 : Int32), si (116 : Int32), si (97 : Int32), si (98 : Int32), si (108 : Int32), si (101 : Int32)]) (st := []) (N := mX11_word) (k := 0) (n := 0) (k1 := 0) (n1 := 0) dX11_kindWord_100 lkX11_133 caX11_word csX11_word rfl (fun Q1 hq => tX11_word (0 : Int32) (0 : Int32) (116 : Int32) (97 : Int32) (98 : Int32) (108 : Int32) (101 : Int32) h Q1 hq) ⟨by decide, by decide⟩ (Nat.le_of_ble_eq_true rfl) rfl hF (fun x3 hF => ?_)
          show gV G mX11_kindWord 1 Q 103 [some (si a0)] [sl x3] (0) (0) h
          exact v_lret (pc := 103) dX11_kindWord_103 rfl (okr hF fun q => q)
        replace hF := (okB_if hF).1 hc
        refine v_iconst (pc := 68) (v := (0 : Int32)) dX11_kindWord_68 rfl ?_
        refine v_iconst (pc := 69) (v := (0 : Int32)) dX11_kindWord_69 rfl ?_
        refine v_iconst (pc := 70) (v := (0 : Int32)) dX11_kindWord_70 rfl ?_
        refine v_bipush (pc := 71) (v := (101 : Int32)) dX11_kindWord_71 rfl ?_
        refine v_bipush (pc := 73) (v := (100 : Int32)) dX11_kindWord_73 rfl ?_
        refine v_bipush (pc := 75) (v := (105 : Int32)) dX11_kindWord_75 rfl ?_
        refine v_bipush (pc := 77) (v := (116 : Int32)) dX11_kindWord_77 rfl ?_
        refine cp_S (pc := 79) gL (as := [si (0 : Int32), si (0 : Int32), si (0 : Int32), si (101 : Int32), si (100 : Int32), si (105 : Int32), si (116 : Int32)]) (st := []) (N := mX11_word) (k := 0) (n := 0) (k1 := 0) (n1 := 0) dX11_kindWord_79 lkX11_133 caX11_word csX11_word rfl (fun Q1 hq => tX11_word (0 : Int32) (0 : Int32) (0 : Int32) (101 : Int32) (100 : Int32) (105 : Int32) (116 : Int32) h Q1 hq) ⟨by decide, by decide⟩ (Nat.le_of_ble_eq_true rfl) rfl hF (fun x4 hF => ?_)
        show gV G mX11_kindWord 1 Q 82 [some (si a0)] [sl x4] (0) (0) h
        exact v_lret (pc := 82) dX11_kindWord_82 rfl (okr hF fun q => q)
      replace hF := (okB_if hF).1 hc
      refine v_iconst (pc := 47) (v := (0 : Int32)) dX11_kindWord_47 rfl ?_
      refine v_iconst (pc := 48) (v := (0 : Int32)) dX11_kindWord_48 rfl ?_
      refine v_bipush (pc := 49) (v := (99 : Int32)) dX11_kindWord_49 rfl ?_
      refine v_bipush (pc := 51) (v := (104 : Int32)) dX11_kindWord_51 rfl ?_
      refine v_bipush (pc := 53) (v := (101 : Int32)) dX11_kindWord_53 rfl ?_
      refine v_bipush (pc := 55) (v := (99 : Int32)) dX11_kindWord_55 rfl ?_
      refine v_bipush (pc := 57) (v := (107 : Int32)) dX11_kindWord_57 rfl ?_
      refine cp_S (pc := 59) gL (as := [si (0 : Int32), si (0 : Int32), si (99 : Int32), si (104 : Int32), si (101 : Int32), si (99 : Int32), si (107 : Int32)]) (st := []) (N := mX11_word) (k := 0) (n := 0) (k1 := 0) (n1 := 0) dX11_kindWord_59 lkX11_133 caX11_word csX11_word rfl (fun Q1 hq => tX11_word (0 : Int32) (0 : Int32) (99 : Int32) (104 : Int32) (101 : Int32) (99 : Int32) (107 : Int32) h Q1 hq) ⟨by decide, by decide⟩ (Nat.le_of_ble_eq_true rfl) rfl hF (fun x5 hF => ?_)
      show gV G mX11_kindWord 1 Q 62 [some (si a0)] [sl x5] (0) (0) h
      exact v_lret (pc := 62) dX11_kindWord_62 rfl (okr hF fun q => q)
    replace hF := (okB_if hF).1 hc
    refine v_iconst (pc := 25) (v := (0 : Int32)) dX11_kindWord_25 rfl ?_
    refine v_bipush (pc := 26) (v := (98 : Int32)) dX11_kindWord_26 rfl ?_
    refine v_bipush (pc := 28) (v := (117 : Int32)) dX11_kindWord_28 rfl ?_
    refine v_bipush (pc := 30) (v := (116 : Int32)) dX11_kindWord_30 rfl ?_
    refine v_bipush (pc := 32) (v := (116 : Int32)) dX11_kindWord_32 rfl ?_
    refine v_bipush (pc := 34) (v := (111 : Int32)) dX11_kindWord_34 rfl ?_
    refine v_bipush (pc := 36) (v := (110 : Int32)) dX11_kindWord_36 rfl ?_
    refine cp_S (pc := 38) gL (as := [si (0 : Int32), si (98 : Int32), si (117 : Int32), si (116 : Int32), si (116 : Int32), si (111 : Int32), si (110 : Int32)]) (st := []) (N := mX11_word) (k := 0) (n := 0) (k1 := 0) (n1 := 0) dX11_kindWord_38 lkX11_133 caX11_word csX11_word rfl (fun Q1 hq => tX11_word (0 : Int32) (98 : Int32) (117 : Int32) (116 : Int32) (116 : Int32) (111 : Int32) (110 : Int32) h Q1 hq) ⟨by decide, by decide⟩ (Nat.le_of_ble_eq_true rfl) rfl hF (fun x6 hF => ?_)
    show gV G mX11_kindWord 1 Q 41 [some (si a0)] [sl x6] (0) (0) h
    exact v_lret (pc := 41) dX11_kindWord_41 rfl (okr hF fun q => q)
  replace hF := (okB_if hF).1 hc
  refine v_iconst (pc := 4) (v := (0 : Int32)) dX11_kindWord_4 rfl ?_
  refine v_iconst (pc := 5) (v := (0 : Int32)) dX11_kindWord_5 rfl ?_
  refine v_bipush (pc := 6) (v := (103 : Int32)) dX11_kindWord_6 rfl ?_
  refine v_bipush (pc := 8) (v := (114 : Int32)) dX11_kindWord_8 rfl ?_
  refine v_bipush (pc := 10) (v := (111 : Int32)) dX11_kindWord_10 rfl ?_
  refine v_bipush (pc := 12) (v := (117 : Int32)) dX11_kindWord_12 rfl ?_
  refine v_bipush (pc := 14) (v := (112 : Int32)) dX11_kindWord_14 rfl ?_
  refine cp_S (pc := 16) gL (as := [si (0 : Int32), si (0 : Int32), si (103 : Int32), si (114 : Int32), si (111 : Int32), si (117 : Int32), si (112 : Int32)]) (st := []) (N := mX11_word) (k := 0) (n := 0) (k1 := 0) (n1 := 0) dX11_kindWord_16 lkX11_133 caX11_word csX11_word rfl (fun Q1 hq => tX11_word (0 : Int32) (0 : Int32) (103 : Int32) (114 : Int32) (111 : Int32) (117 : Int32) (112 : Int32) h Q1 hq) ⟨by decide, by decide⟩ (Nat.le_of_ble_eq_true rfl) rfl hF (fun x7 hF => ?_)
  show gV G mX11_kindWord 1 Q 19 [some (si a0)] [sl x7] (0) (0) h
  exact v_lret (pc := 19) dX11_kindWord_19 rfl (okr hF fun q => q)
/-! BrailleDeskModel.kindLetter -/
theorem lX11_kindLetter_5 {G : gG} {Q : hQ} {P : Int64 → Prop} {k n : Nat} {h : hp}  (hJ : ∀ q : Int64, P q → gV G mX11_kindLetter 2 Q 21 [none, some (sl q), none] [] (k) (n) h) : ∀ (fu : Nat) (a : Int64), okB (itr (fX11_kindLetter_B5) fu a) P → gV G mX11_kindLetter 2 Q 5 [none, some (sl a), none] [] (k) (n) h :=
  lpg (X := fun (a : Int64) => gV G mX11_kindLetter 2 Q 5 [none, some (sl a), none] [] (k) (n) h) (fun a P2 hL hE hF => by
    delta fX11_kindLetter_B5 at hF
    refine v_lload_n (pc := 5) (i := 1) dX11_kindLetter_5 rfl rfl ?_
    refine v_ldc2 (pc := 6) (v := (127 : Int64)) dX11_kindLetter_6 clX11_141 ?_
    refine v_lcmp (pc := 9) dX11_kindLetter_9 ?_
    refine v_if_le (pc := 10) 21 dX11_kindLetter_10 rfl (fun hc => ?_) (fun hc => ?_)
    · replace hF := (okB_if hF).1 hc
      exact v_lle [none, some (sl a), none] ⟨rfl, trivial⟩ (hJ a (hE _ (okB_some hF)))
    replace hF := (okB_if hF).2 hc
    refine v_lload_n (pc := 13) (i := 1) dX11_kindLetter_13 rfl rfl ?_
    refine v_bipush (pc := 14) (v := (7 : Int32)) dX11_kindLetter_14 rfl ?_
    refine v_lshr (pc := 16) dX11_kindLetter_16 ?_
    refine v_lstore_n (pc := 17) (i := 1) [none, some (sl (a >>> ((7 : Int32).toInt64 &&& 63))), none] dX11_kindLetter_17 rfl (by decide) rfl rfl ?_
    refine v_goto (pc := 18) 5 dX11_kindLetter_18 rfl ?_
    exact v_lle [none, some (sl (a >>> ((7 : Int32).toInt64 &&& 63))), none] ⟨rfl, trivial⟩ (hL (a >>> ((7 : Int32).toInt64 &&& 63)) (okB_some hF)))
theorem tX11_kindLetter {G : gG} (a0 : Int32) (h : hp) (Q : hQ) (hF : okB (fX11_kindLetter a0) (pP gI Q h)) : gS G mX11_kindLetter 2 0 0 [si a0] h Q := by
  delta fX11_kindLetter at hF
  refine gS_at [some (si a0), none, none] pl_X11 rfl (Nat.le_of_ble_eq_true rfl) rfl ?_
  refine v_iload_n (pc := 0) (i := 0) dX11_kindLetter_0 rfl rfl ?_
  refine cp_S (pc := 1) gL (as := [si a0]) (st := []) (N := mX11_kindWord) (k := 0) (n := 0) (k1 := 0) (n1 := 0) dX11_kindLetter_1 lkX11_137 caX11_kindWord csX11_kindWord rfl (fun Q1 hq => tX11_kindWord a0 h Q1 hq) ⟨by decide, by decide⟩ (Nat.le_of_ble_eq_true rfl) rfl hF (fun x1 hF => ?_)
  show gV G mX11_kindLetter 2 Q 4 [some (si a0), none, none] [sl x1] (0) (0) h
  refine v_lstore_n (pc := 4) (i := 1) [some (si a0), some (sl x1), none] dX11_kindLetter_4 rfl (by decide) rfl rfl ?_
  refine mg (X := fun q2 => gV G mX11_kindLetter 2 Q 21 [none, some (sl q2), none] [] (0) (0) h) hF (fun _ hj3 hF => v_lle [none, some (sl x1), none] ⟨rfl, trivial⟩ (lX11_kindLetter_5  hj3 FU x1 hF)) (fun q2 hF => ?_)
  refine v_lload_n (pc := 21) (i := 1) dX11_kindLetter_21 rfl rfl ?_
  refine v_lconst (pc := 22) (v := (0 : Int64)) dX11_kindLetter_22 rfl ?_
  refine v_lcmp (pc := 23) dX11_kindLetter_23 ?_
  refine v_if_ne (pc := 24) 31 dX11_kindLetter_24 rfl (fun hc => ?_) (fun hc => ?_)
  · replace hF := (okB_if hF).2 hc
    refine v_lload_n (pc := 31) (i := 1) dX11_kindLetter_31 rfl rfl ?_
    refine v_l2i (pc := 32) dX11_kindLetter_32 ?_
    refine v_bipush (pc := 33) (v := (97 : Int32)) dX11_kindLetter_33 rfl ?_
    refine v_isub (pc := 35) dX11_kindLetter_35 ?_
    exact v_iret (pc := 36) dX11_kindLetter_36 rfl rfl (okr hF fun q => q)
  replace hF := (okB_if hF).1 hc
  refine v_iconst (pc := 27) (v := (-1 : Int32)) dX11_kindLetter_27 rfl ?_
  refine v_goto (pc := 28) 36 dX11_kindLetter_28 rfl ?_
  exact v_iret (pc := 36) dX11_kindLetter_36 rfl rfl (okr hF fun q => q)
/-! BrailleDeskModel.put -/
theorem tX11_put {G : gG} (a0 : Nat) (h : hp) (a1 : Int32) (m : mm) (Q : hQ) (hF : okB (fX11_put a1 m) (pM gU Q a0 h)) : gS G mX11_put 0 0 0 [sr (some a0), si a1] (jn a0 h m) Q := by
  delta fX11_put at hF
  refine gS_at [some (sr (some a0)), some (si a1)] pl_X11 rfl (Nat.le_of_ble_eq_true rfl) rfl ?_
  refine v_aload_n (pc := 0) (i := 0) dX11_put_0 rfl rfl ?_
  refine m_getA (pc := 1) (j := 28) dX11_put_1 flX11_65 rfl (by decide) ?_
  refine v_aload_n (pc := 4) (i := 0) dX11_put_4 rfl rfl ?_
  refine m_getI (pc := 5) (j := 29) dX11_put_5 flX11_143 rfl rfl ?_
  refine v_iload_n (pc := 8) (i := 1) dX11_put_8 rfl rfl ?_
  refine m_iast (pc := 9) (j := 28) dX11_put_9 hF (fun m1 hF => ?_)
  refine v_aload_n (pc := 10) (i := 0) dX11_put_10 rfl rfl ?_
  refine v_dup (pc := 11) dX11_put_11 rfl ?_
  refine m_getI (pc := 12) (j := 29) dX11_put_12 flX11_143 rfl rfl ?_
  refine v_iconst (pc := 15) (v := (1 : Int32)) dX11_put_15 rfl ?_
  refine v_iadd (pc := 16) dX11_put_16 ?_
  refine m_putI (pc := 17) (j := 29) dX11_put_17 flX11_143 rfl rfl rfl hF (fun m2 hF => ?_)
  exact v_ret (pc := 20) dX11_put_20 rfl (okr hF fun q => q)
/-! BrailleDeskModel.gap -/
theorem tX11_gap {G : gG} (a0 : Nat) (h : hp)  (m : mm) (Q : hQ) (hF : okB (fX11_gap m) (pM gU Q a0 h)) : gS G mX11_gap 1 0 0 [sr (some a0)] (jn a0 h m) Q := by
  delta fX11_gap at hF
  refine gS_at [some (sr (some a0))] pl_X11 rfl (Nat.le_of_ble_eq_true rfl) rfl ?_
  refine v_aload_n (pc := 0) (i := 0) dX11_gap_0 rfl rfl ?_
  refine m_getI (pc := 1) (j := 29) dX11_gap_1 flX11_143 rfl rfl ?_
  refine v_if_le (pc := 4) 13 dX11_gap_4 rfl (fun hc => ?_) (fun hc => ?_)
  · replace hF := (okB_if hF).1 hc
    exact v_ret (pc := 13) dX11_gap_13 rfl (okr hF fun q => q)
  replace hF := (okB_if hF).2 hc
  refine v_aload_n (pc := 7) (i := 0) dX11_gap_7 rfl rfl ?_
  refine v_bipush (pc := 8) (v := (32 : Int32)) dX11_gap_8 rfl ?_
  refine chM_V (pc := 10) gU (as := [si (32 : Int32)]) (st := []) (N := mX11_put) (k := 0) (n := 0) (k1 := 0) (n1 := 0) dX11_gap_10 lkX11_146 caX11_put cvX11_put rfl rfl (fun Q1 hq => tX11_put a0 h (32 : Int32) m Q1 hq) ⟨by decide, by decide⟩ (Nat.le_of_ble_eq_true rfl) rfl hF (fun x1 m2 hF => ?_)
  show gV G mX11_gap 1 Q 13 [some (sr (some a0))] [] (0) (0) (jn a0 h m2)
  exact v_ret (pc := 13) dX11_gap_13 rfl (okr hF fun q => q)
/-! BrailleDeskModel.partWord -/
theorem lX11_partWord_13 {G : gG} {Q : hQ} {P : mm → Prop} {k n : Nat} (a0 : Nat) (h : hp) (c1 : Int64) (hJ : ∀ q : mm, P q → gV G mX11_partWord 2 Q 47 [none, none, none, none] [] (k) (n) (jn a0 h q)) : ∀ (fu : Nat) (a : (Int32 × mm)), okB (itr (fX11_partWord_B13 c1) fu a) P → gV G mX11_partWord 2 Q 13 [some (sr (some a0)), some (sl c1), none, some (si a.1)] [] (k) (n) (jn a0 h a.2) :=
  lpg (X := fun (a : (Int32 × mm)) => gV G mX11_partWord 2 Q 13 [some (sr (some a0)), some (sl c1), none, some (si a.1)] [] (k) (n) (jn a0 h a.2)) (fun a P2 hL hE hF => by
    delta fX11_partWord_B13 at hF
    refine v_iload_n (pc := 13) (i := 3) dX11_partWord_13 rfl rfl ?_
    refine v_if_lt (pc := 14) 47 dX11_partWord_14 rfl (fun hc => ?_) (fun hc => ?_)
    · replace hF := (okB_if hF).1 hc
      exact v_lle [none, none, none, none] trivial (hJ a.2 (hE _ (okB_some hF)))
    replace hF := (okB_if hF).2 hc
    refine v_lload_n (pc := 17) (i := 1) dX11_partWord_17 rfl rfl ?_
    refine v_iload_n (pc := 18) (i := 3) dX11_partWord_18 rfl rfl ?_
    refine v_lshr (pc := 19) dX11_partWord_19 ?_
    refine v_ldc2 (pc := 20) (v := (127 : Int64)) dX11_partWord_20 clX11_141 ?_
    refine v_land (pc := 23) dX11_partWord_23 ?_
    refine v_lconst (pc := 24) (v := (0 : Int64)) dX11_partWord_24 rfl ?_
    refine v_lcmp (pc := 25) dX11_partWord_25 ?_
    refine v_if_le (pc := 26) 41 dX11_partWord_26 rfl (fun hc => ?_) (fun hc => ?_)
    · replace hF := (okB_if hF).1 hc
      refine v_iinc (pc := 41) (i := 3) (a.1 + (-7 : Int32)) [some (sr (some a0)), some (sl c1), none, some (si (a.1 + (-7 : Int32)))] dX11_partWord_41 rfl rfl rfl rfl ?_
      refine v_goto (pc := 44) 13 dX11_partWord_44 rfl ?_
      exact v_lle [some (sr (some a0)), some (sl c1), none, some (si (a.1 + (-7 : Int32)))] ⟨rfl, rfl, rfl, trivial⟩ (hL (a.1 + (-7 : Int32), a.2) (okB_some hF))
    replace hF := (okB_if hF).2 hc
    refine v_aload_n (pc := 29) (i := 0) dX11_partWord_29 rfl rfl ?_
    refine v_lload_n (pc := 30) (i := 1) dX11_partWord_30 rfl rfl ?_
    refine v_iload_n (pc := 31) (i := 3) dX11_partWord_31 rfl rfl ?_
    refine v_lshr (pc := 32) dX11_partWord_32 ?_
    refine v_ldc2 (pc := 33) (v := (127 : Int64)) dX11_partWord_33 clX11_141 ?_
    refine v_land (pc := 36) dX11_partWord_36 ?_
    refine v_l2i (pc := 37) dX11_partWord_37 ?_
    refine chM_V (pc := 38) gU (as := [si (((c1 >>> (a.1.toInt64 &&& 63)) &&& (127 : Int64)).toInt32)]) (st := []) (N := mX11_put) (k := k) (n := n) (k1 := 0) (n1 := 0) dX11_partWord_38 lkX11_146 caX11_put cvX11_put rfl rfl (fun Q1 hq => tX11_put a0 h (((c1 >>> (a.1.toInt64 &&& 63)) &&& (127 : Int64)).toInt32) a.2 Q1 hq) ⟨by decide, by decide⟩ (Nat.le_of_ble_eq_true rfl) rfl hF (fun x1 m2 hF => ?_)
    show gV G mX11_partWord 2 Q 41 [some (sr (some a0)), some (sl c1), none, some (si a.1)] [] (k) (n) (jn a0 h m2)
    refine v_iinc (pc := 41) (i := 3) (a.1 + (-7 : Int32)) [some (sr (some a0)), some (sl c1), none, some (si (a.1 + (-7 : Int32)))] dX11_partWord_41 rfl rfl rfl rfl ?_
    refine v_goto (pc := 44) 13 dX11_partWord_44 rfl ?_
    exact v_lle [some (sr (some a0)), some (sl c1), none, some (si (a.1 + (-7 : Int32)))] ⟨rfl, rfl, rfl, trivial⟩ (hL (a.1 + (-7 : Int32), m2) (okB_some hF)))
theorem tX11_partWord {G : gG} (a0 : Nat) (h : hp) (a1 : Int64) (m : mm) (Q : hQ) (hF : okB (fX11_partWord a1 m) (pM gU Q a0 h)) : gS G mX11_partWord 2 0 0 [sr (some a0), sl a1] (jn a0 h m) Q := by
  delta fX11_partWord at hF
  refine gS_at [some (sr (some a0)), some (sl a1), none, none] pl_X11 rfl (Nat.le_of_ble_eq_true rfl) rfl ?_
  refine v_lload_n (pc := 0) (i := 1) dX11_partWord_0 rfl rfl ?_
  refine v_lconst (pc := 1) (v := (0 : Int64)) dX11_partWord_1 rfl ?_
  refine v_lcmp (pc := 2) dX11_partWord_2 ?_
  refine mg (X := fun q1 => gV G mX11_partWord 2 Q 10 [some (sr (some a0)), some (sl a1), none, none] [] (0) (0) (jn a0 h q1)) hF (fun _ hj2 hF => ?_) (fun q1 hF => ?_)
  · refine v_if_le (pc := 3) 10 dX11_partWord_3 rfl (fun hc => ?_) (fun hc => ?_)
    · replace hF := (okB_if hF).1 hc
      exact v_lle [some (sr (some a0)), some (sl a1), none, none] ⟨rfl, rfl, trivial⟩ (hj2 m (okB_some hF))
    replace hF := (okB_if hF).2 hc
    refine v_aload_n (pc := 6) (i := 0) dX11_partWord_6 rfl rfl ?_
    refine chM_V (pc := 7) gU (as := []) (st := []) (N := mX11_gap) (k := 0) (n := 0) (k1 := 0) (n1 := 0) dX11_partWord_7 lkX11_150 caX11_gap cvX11_gap rfl rfl (fun Q1 hq => tX11_gap a0 h m Q1 hq) ⟨by decide, by decide⟩ (Nat.le_of_ble_eq_true rfl) rfl hF (fun x3 m4 hF => ?_)
    show gV G mX11_partWord 2 Q 10 [some (sr (some a0)), some (sl a1), none, none] [] (0) (0) (jn a0 h m4)
    exact v_lle [some (sr (some a0)), some (sl a1), none, none] ⟨rfl, rfl, trivial⟩ (hj2 m4 (okB_some hF))
  refine v_bipush (pc := 10) (v := (42 : Int32)) dX11_partWord_10 rfl ?_
  refine v_istore_n (pc := 12) (i := 3) [some (sr (some a0)), some (sl a1), none, some (si (42 : Int32))] dX11_partWord_12 rfl (by decide) rfl rfl ?_
  refine mg (X := fun q5 => gV G mX11_partWord 2 Q 47 [none, none, none, none] [] (0) (0) (jn a0 h q5)) hF (fun _ hj6 hF => v_lle [some (sr (some a0)), some (sl a1), none, some (si (42 : Int32))] ⟨rfl, rfl, rfl, trivial⟩ (lX11_partWord_13 a0 h a1 hj6 FU ((42 : Int32), q1) hF)) (fun q5 hF => ?_)
  exact v_ret (pc := 47) dX11_partWord_47 rfl (okr hF fun q => q)
