/-! ===== methods: their functions and rows ===== -/
theorem dX11_write_0 : decode cX11_write 0 = .ok (.iconst 0, 1) := by decide +kernel
theorem dX11_write_1 : decode cX11_write 1 = .ok (.istore 4, 2) := by decide +kernel
theorem dX11_write_3 : decode cX11_write 3 = .ok (.iload 4, 2) := by decide +kernel
theorem dX11_write_5 : decode cX11_write 5 = .ok (.iload_n 3, 1) := by decide +kernel
theorem dX11_write_6 : decode cX11_write 6 = .ok (.if_icmp .ge 162, 3) := by decide +kernel
theorem dX11_write_9 : decode cX11_write 9 = .ok (.aload_n 1, 1) := by decide +kernel
theorem dX11_write_10 : decode cX11_write 10 = .ok (.iload_n 2, 1) := by decide +kernel
theorem dX11_write_11 : decode cX11_write 11 = .ok (.iload 4, 2) := by decide +kernel
theorem dX11_write_13 : decode cX11_write 13 = .ok (.iadd, 1) := by decide +kernel
theorem dX11_write_14 : decode cX11_write 14 = .ok (.iaload, 1) := by decide +kernel
theorem dX11_write_15 : decode cX11_write 15 = .ok (.istore 5, 2) := by decide +kernel
theorem dX11_write_17 : decode cX11_write 17 = .ok (.iload 4, 2) := by decide +kernel
theorem dX11_write_19 : decode cX11_write 19 = .ok (.ifCond .le 21, 3) := by decide +kernel
theorem dX11_write_22 : decode cX11_write 22 = .ok (.aload_n 1, 1) := by decide +kernel
theorem dX11_write_23 : decode cX11_write 23 = .ok (.iload_n 2, 1) := by decide +kernel
theorem dX11_write_24 : decode cX11_write 24 = .ok (.iload 4, 2) := by decide +kernel
theorem dX11_write_26 : decode cX11_write 26 = .ok (.iadd, 1) := by decide +kernel
theorem dX11_write_27 : decode cX11_write 27 = .ok (.iconst 1, 1) := by decide +kernel
theorem dX11_write_28 : decode cX11_write 28 = .ok (.isub, 1) := by decide +kernel
theorem dX11_write_29 : decode cX11_write 29 = .ok (.iaload, 1) := by decide +kernel
theorem dX11_write_30 : decode cX11_write 30 = .ok (.invokestatic 251, 3) := by decide +kernel
theorem dX11_write_33 : decode cX11_write 33 = .ok (.ifCond .eq 7, 3) := by decide +kernel
theorem dX11_write_36 : decode cX11_write 36 = .ok (.iconst 1, 1) := by decide +kernel
theorem dX11_write_37 : decode cX11_write 37 = .ok (.goto 4, 3) := by decide +kernel
theorem dX11_write_40 : decode cX11_write 40 = .ok (.iconst 0, 1) := by decide +kernel
theorem dX11_write_41 : decode cX11_write 41 = .ok (.istore 6, 2) := by decide +kernel
theorem dX11_write_43 : decode cX11_write 43 = .ok (.iload 5, 2) := by decide +kernel
theorem dX11_write_45 : decode cX11_write 45 = .ok (.invokestatic 242, 3) := by decide +kernel
theorem dX11_write_48 : decode cX11_write 48 = .ok (.ifCond .eq 15, 3) := by decide +kernel
theorem dX11_write_51 : decode cX11_write 51 = .ok (.aload_n 0, 1) := by decide +kernel
theorem dX11_write_52 : decode cX11_write 52 = .ok (.aload_n 1, 1) := by decide +kernel
theorem dX11_write_53 : decode cX11_write 53 = .ok (.iload_n 2, 1) := by decide +kernel
theorem dX11_write_54 : decode cX11_write 54 = .ok (.iload_n 3, 1) := by decide +kernel
theorem dX11_write_55 : decode cX11_write 55 = .ok (.iload 4, 2) := by decide +kernel
theorem dX11_write_57 : decode cX11_write 57 = .ok (.invokevirtual 254, 3) := by decide +kernel
theorem dX11_write_60 : decode cX11_write 60 = .ok (.goto 102, 3) := by decide +kernel
theorem dX11_write_63 : decode cX11_write 63 = .ok (.iload 5, 2) := by decide +kernel
theorem dX11_write_65 : decode cX11_write 65 = .ok (.invokestatic 239, 3) := by decide +kernel
theorem dX11_write_68 : decode cX11_write 68 = .ok (.ifCond .eq 37, 3) := by decide +kernel
theorem dX11_write_71 : decode cX11_write 71 = .ok (.iload 6, 2) := by decide +kernel
theorem dX11_write_73 : decode cX11_write 73 = .ok (.ifCond .eq 16, 3) := by decide +kernel
theorem dX11_write_76 : decode cX11_write 76 = .ok (.iload 5, 2) := by decide +kernel
theorem dX11_write_78 : decode cX11_write 78 = .ok (.bipush 106, 2) := by decide +kernel
theorem dX11_write_80 : decode cX11_write 80 = .ok (.if_icmp .gt 9, 3) := by decide +kernel
theorem dX11_write_83 : decode cX11_write 83 = .ok (.aload_n 0, 1) := by decide +kernel
theorem dX11_write_84 : decode cX11_write 84 = .ok (.bipush 48, 2) := by decide +kernel
theorem dX11_write_86 : decode cX11_write 86 = .ok (.invokevirtual 245, 3) := by decide +kernel
theorem dX11_write_89 : decode cX11_write 89 = .ok (.aload_n 0, 1) := by decide +kernel
theorem dX11_write_90 : decode cX11_write 90 = .ok (.aload_n 0, 1) := by decide +kernel
theorem dX11_write_91 : decode cX11_write 91 = .ok (.iload 5, 2) := by decide +kernel
theorem dX11_write_93 : decode cX11_write 93 = .ok (.bipush 97, 2) := by decide +kernel
theorem dX11_write_95 : decode cX11_write 95 = .ok (.isub, 1) := by decide +kernel
theorem dX11_write_96 : decode cX11_write 96 = .ok (.invokevirtual 248, 3) := by decide +kernel
theorem dX11_write_99 : decode cX11_write 99 = .ok (.invokevirtual 245, 3) := by decide +kernel
theorem dX11_write_102 : decode cX11_write 102 = .ok (.goto 60, 3) := by decide +kernel
theorem dX11_write_105 : decode cX11_write 105 = .ok (.iload 5, 2) := by decide +kernel
theorem dX11_write_107 : decode cX11_write 107 = .ok (.invokestatic 251, 3) := by decide +kernel
theorem dX11_write_110 : decode cX11_write 110 = .ok (.ifCond .eq 43, 3) := by decide +kernel
theorem dX11_write_113 : decode cX11_write 113 = .ok (.iload 6, 2) := by decide +kernel
theorem dX11_write_115 : decode cX11_write 115 = .ok (.ifCond .ne 9, 3) := by decide +kernel
theorem dX11_write_118 : decode cX11_write 118 = .ok (.aload_n 0, 1) := by decide +kernel
theorem dX11_write_119 : decode cX11_write 119 = .ok (.bipush 60, 2) := by decide +kernel
theorem dX11_write_121 : decode cX11_write 121 = .ok (.invokevirtual 245, 3) := by decide +kernel
theorem dX11_write_124 : decode cX11_write 124 = .ok (.aload_n 0, 1) := by decide +kernel
theorem dX11_write_125 : decode cX11_write 125 = .ok (.aload_n 0, 1) := by decide +kernel
theorem dX11_write_126 : decode cX11_write 126 = .ok (.getfield 89, 3) := by decide +kernel
theorem dX11_write_129 : decode cX11_write 129 = .ok (.iload 5, 2) := by decide +kernel
theorem dX11_write_131 : decode cX11_write 131 = .ok (.bipush 48, 2) := by decide +kernel
theorem dX11_write_133 : decode cX11_write 133 = .ok (.if_icmp .ne 8, 3) := by decide +kernel
theorem dX11_write_136 : decode cX11_write 136 = .ok (.bipush 9, 2) := by decide +kernel
theorem dX11_write_138 : decode cX11_write 138 = .ok (.goto 8, 3) := by decide +kernel
theorem dX11_write_141 : decode cX11_write 141 = .ok (.iload 5, 2) := by decide +kernel
theorem dX11_write_143 : decode cX11_write 143 = .ok (.bipush 49, 2) := by decide +kernel
theorem dX11_write_145 : decode cX11_write 145 = .ok (.isub, 1) := by decide +kernel
theorem dX11_write_146 : decode cX11_write 146 = .ok (.iaload, 1) := by decide +kernel
theorem dX11_write_147 : decode cX11_write 147 = .ok (.invokevirtual 245, 3) := by decide +kernel
theorem dX11_write_150 : decode cX11_write 150 = .ok (.goto 12, 3) := by decide +kernel
theorem dX11_write_153 : decode cX11_write 153 = .ok (.aload_n 0, 1) := by decide +kernel
theorem dX11_write_154 : decode cX11_write 154 = .ok (.iload 5, 2) := by decide +kernel
theorem dX11_write_156 : decode cX11_write 156 = .ok (.invokestatic 258, 3) := by decide +kernel
theorem dX11_write_159 : decode cX11_write 159 = .ok (.invokevirtual 245, 3) := by decide +kernel
theorem dX11_write_162 : decode cX11_write 162 = .ok (.iinc 4 1, 3) := by decide +kernel
theorem dX11_write_165 : decode cX11_write 165 = .ok (.goto (-162), 3) := by decide +kernel
theorem dX11_write_168 : decode cX11_write 168 = .ok (.return_, 1) := by decide +kernel
theorem dX11_layLine_0 : decode cX11_layLine 0 = .ok (.aload_n 0, 1) := by decide +kernel
theorem dX11_layLine_1 : decode cX11_layLine 1 = .ok (.getfield 13, 3) := by decide +kernel
theorem dX11_layLine_4 : decode cX11_layLine 4 = .ok (.aload_n 0, 1) := by decide +kernel
theorem dX11_layLine_5 : decode cX11_layLine 5 = .ok (.getfield 128, 3) := by decide +kernel
theorem dX11_layLine_8 : decode cX11_layLine 8 = .ok (.iaload, 1) := by decide +kernel
theorem dX11_layLine_9 : decode cX11_layLine 9 = .ok (.istore_n 1, 1) := by decide +kernel
theorem dX11_layLine_10 : decode cX11_layLine 10 = .ok (.aload_n 0, 1) := by decide +kernel
theorem dX11_layLine_11 : decode cX11_layLine 11 = .ok (.iconst 0, 1) := by decide +kernel
theorem dX11_layLine_12 : decode cX11_layLine 12 = .ok (.putfield 236, 3) := by decide +kernel
theorem dX11_layLine_15 : decode cX11_layLine 15 = .ok (.aload_n 0, 1) := by decide +kernel
theorem dX11_layLine_16 : decode cX11_layLine 16 = .ok (.aload_n 0, 1) := by decide +kernel
theorem dX11_layLine_17 : decode cX11_layLine 17 = .ok (.getfield 128, 3) := by decide +kernel
theorem dX11_layLine_20 : decode cX11_layLine 20 = .ok (.invokevirtual 164, 3) := by decide +kernel
theorem dX11_layLine_23 : decode cX11_layLine 23 = .ok (.ifCond .eq 24, 3) := by decide +kernel
theorem dX11_layLine_26 : decode cX11_layLine 26 = .ok (.iload_n 1, 1) := by decide +kernel
theorem dX11_layLine_27 : decode cX11_layLine 27 = .ok (.iconst 1, 1) := by decide +kernel
theorem dX11_layLine_28 : decode cX11_layLine 28 = .ok (.if_icmp .eq 19, 3) := by decide +kernel
theorem dX11_layLine_31 : decode cX11_layLine 31 = .ok (.aload_n 0, 1) := by decide +kernel
theorem dX11_layLine_32 : decode cX11_layLine 32 = .ok (.aload_n 0, 1) := by decide +kernel
theorem dX11_layLine_33 : decode cX11_layLine 33 = .ok (.iload_n 1, 1) := by decide +kernel
theorem dX11_layLine_34 : decode cX11_layLine 34 = .ok (.invokestatic 261, 3) := by decide +kernel
theorem dX11_layLine_37 : decode cX11_layLine 37 = .ok (.invokevirtual 248, 3) := by decide +kernel
theorem dX11_layLine_40 : decode cX11_layLine 40 = .ok (.sipush 192, 3) := by decide +kernel
theorem dX11_layLine_43 : decode cX11_layLine 43 = .ok (.iadd, 1) := by decide +kernel
theorem dX11_layLine_44 : decode cX11_layLine 44 = .ok (.invokevirtual 245, 3) := by decide +kernel
theorem dX11_layLine_47 : decode cX11_layLine 47 = .ok (.aload_n 0, 1) := by decide +kernel
theorem dX11_layLine_48 : decode cX11_layLine 48 = .ok (.aload_n 0, 1) := by decide +kernel
theorem dX11_layLine_49 : decode cX11_layLine 49 = .ok (.getfield 26, 3) := by decide +kernel
theorem dX11_layLine_52 : decode cX11_layLine 52 = .ok (.bipush 12, 2) := by decide +kernel
theorem dX11_layLine_54 : decode cX11_layLine 54 = .ok (.aload_n 0, 1) := by decide +kernel
theorem dX11_layLine_55 : decode cX11_layLine 55 = .ok (.getfield 128, 3) := by decide +kernel
theorem dX11_layLine_58 : decode cX11_layLine 58 = .ok (.imul, 1) := by decide +kernel
theorem dX11_layLine_59 : decode cX11_layLine 59 = .ok (.aload_n 0, 1) := by decide +kernel
theorem dX11_layLine_60 : decode cX11_layLine 60 = .ok (.getfield 29, 3) := by decide +kernel
theorem dX11_layLine_63 : decode cX11_layLine 63 = .ok (.aload_n 0, 1) := by decide +kernel
theorem dX11_layLine_64 : decode cX11_layLine 64 = .ok (.getfield 128, 3) := by decide +kernel
theorem dX11_layLine_67 : decode cX11_layLine 67 = .ok (.iaload, 1) := by decide +kernel
theorem dX11_layLine_68 : decode cX11_layLine 68 = .ok (.invokevirtual 264, 3) := by decide +kernel
theorem dX11_layLine_71 : decode cX11_layLine 71 = .ok (.iload_n 1, 1) := by decide +kernel
theorem dX11_layLine_72 : decode cX11_layLine 72 = .ok (.iconst 3, 1) := by decide +kernel
theorem dX11_layLine_73 : decode cX11_layLine 73 = .ok (.if_icmp .ne 31, 3) := by decide +kernel
theorem dX11_layLine_76 : decode cX11_layLine 76 = .ok (.aload_n 0, 1) := by decide +kernel
theorem dX11_layLine_77 : decode cX11_layLine 77 = .ok (.iconst 0, 1) := by decide +kernel
theorem dX11_layLine_78 : decode cX11_layLine 78 = .ok (.invokevirtual 245, 3) := by decide +kernel
theorem dX11_layLine_81 : decode cX11_layLine 81 = .ok (.aload_n 0, 1) := by decide +kernel
theorem dX11_layLine_82 : decode cX11_layLine 82 = .ok (.aload_n 0, 1) := by decide +kernel
theorem dX11_layLine_83 : decode cX11_layLine 83 = .ok (.getfield 38, 3) := by decide +kernel
theorem dX11_layLine_86 : decode cX11_layLine 86 = .ok (.aload_n 0, 1) := by decide +kernel
theorem dX11_layLine_87 : decode cX11_layLine 87 = .ok (.getfield 128, 3) := by decide +kernel
theorem dX11_layLine_90 : decode cX11_layLine 90 = .ok (.baload, 1) := by decide +kernel
theorem dX11_layLine_91 : decode cX11_layLine 91 = .ok (.ifCond .eq 8, 3) := by decide +kernel
theorem dX11_layLine_94 : decode cX11_layLine 94 = .ok (.bipush 63, 2) := by decide +kernel
theorem dX11_layLine_96 : decode cX11_layLine 96 = .ok (.goto 5, 3) := by decide +kernel
theorem dX11_layLine_99 : decode cX11_layLine 99 = .ok (.bipush 36, 2) := by decide +kernel
theorem dX11_layLine_101 : decode cX11_layLine 101 = .ok (.invokevirtual 245, 3) := by decide +kernel
theorem dX11_layLine_104 : decode cX11_layLine 104 = .ok (.aload_n 0, 1) := by decide +kernel
theorem dX11_layLine_105 : decode cX11_layLine 105 = .ok (.getfield 35, 3) := by decide +kernel
theorem dX11_layLine_108 : decode cX11_layLine 108 = .ok (.aload_n 0, 1) := by decide +kernel
theorem dX11_layLine_109 : decode cX11_layLine 109 = .ok (.getfield 128, 3) := by decide +kernel
theorem dX11_layLine_112 : decode cX11_layLine 112 = .ok (.iaload, 1) := by decide +kernel
theorem dX11_layLine_113 : decode cX11_layLine 113 = .ok (.ifCond .le 32, 3) := by decide +kernel
theorem dX11_layLine_116 : decode cX11_layLine 116 = .ok (.aload_n 0, 1) := by decide +kernel
theorem dX11_layLine_117 : decode cX11_layLine 117 = .ok (.iconst 0, 1) := by decide +kernel
theorem dX11_layLine_118 : decode cX11_layLine 118 = .ok (.invokevirtual 245, 3) := by decide +kernel
theorem dX11_layLine_121 : decode cX11_layLine 121 = .ok (.aload_n 0, 1) := by decide +kernel
theorem dX11_layLine_122 : decode cX11_layLine 122 = .ok (.aload_n 0, 1) := by decide +kernel
theorem dX11_layLine_123 : decode cX11_layLine 123 = .ok (.getfield 32, 3) := by decide +kernel
theorem dX11_layLine_126 : decode cX11_layLine 126 = .ok (.bipush 12, 2) := by decide +kernel
theorem dX11_layLine_128 : decode cX11_layLine 128 = .ok (.aload_n 0, 1) := by decide +kernel
theorem dX11_layLine_129 : decode cX11_layLine 129 = .ok (.getfield 128, 3) := by decide +kernel
theorem dX11_layLine_132 : decode cX11_layLine 132 = .ok (.imul, 1) := by decide +kernel
theorem dX11_layLine_133 : decode cX11_layLine 133 = .ok (.aload_n 0, 1) := by decide +kernel
theorem dX11_layLine_134 : decode cX11_layLine 134 = .ok (.getfield 35, 3) := by decide +kernel
theorem dX11_layLine_137 : decode cX11_layLine 137 = .ok (.aload_n 0, 1) := by decide +kernel
theorem dX11_layLine_138 : decode cX11_layLine 138 = .ok (.getfield 128, 3) := by decide +kernel
theorem dX11_layLine_141 : decode cX11_layLine 141 = .ok (.iaload, 1) := by decide +kernel
theorem dX11_layLine_142 : decode cX11_layLine 142 = .ok (.invokevirtual 264, 3) := by decide +kernel
theorem dX11_layLine_145 : decode cX11_layLine 145 = .ok (.aload_n 0, 1) := by decide +kernel
theorem dX11_layLine_146 : decode cX11_layLine 146 = .ok (.getfield 267, 3) := by decide +kernel
theorem dX11_layLine_149 : decode cX11_layLine 149 = .ok (.ifCond .eq 10, 3) := by decide +kernel
theorem dX11_layLine_152 : decode cX11_layLine 152 = .ok (.aload_n 0, 1) := by decide +kernel
theorem dX11_layLine_153 : decode cX11_layLine 153 = .ok (.sipush 192, 3) := by decide +kernel
theorem dX11_layLine_156 : decode cX11_layLine 156 = .ok (.invokevirtual 245, 3) := by decide +kernel
theorem dX11_layLine_159 : decode cX11_layLine 159 = .ok (.return_, 1) := by decide +kernel
theorem dX11_fitOffset_0 : decode cX11_fitOffset 0 = .ok (.aload_n 0, 1) := by decide +kernel
theorem dX11_fitOffset_1 : decode cX11_fitOffset 1 = .ok (.invokevirtual 271, 3) := by decide +kernel
theorem dX11_fitOffset_4 : decode cX11_fitOffset 4 = .ok (.aload_n 0, 1) := by decide +kernel
theorem dX11_fitOffset_5 : decode cX11_fitOffset 5 = .ok (.getfield 274, 3) := by decide +kernel
theorem dX11_fitOffset_8 : decode cX11_fitOffset 8 = .ok (.ifCond .le 41, 3) := by decide +kernel
theorem dX11_fitOffset_11 : decode cX11_fitOffset 11 = .ok (.aload_n 0, 1) := by decide +kernel
theorem dX11_fitOffset_12 : decode cX11_fitOffset 12 = .ok (.getfield 274, 3) := by decide +kernel
theorem dX11_fitOffset_15 : decode cX11_fitOffset 15 = .ok (.aload_n 0, 1) := by decide +kernel
theorem dX11_fitOffset_16 : decode cX11_fitOffset 16 = .ok (.getfield 236, 3) := by decide +kernel
theorem dX11_fitOffset_19 : decode cX11_fitOffset 19 = .ok (.if_icmp .lt 30, 3) := by decide +kernel
theorem dX11_fitOffset_22 : decode cX11_fitOffset 22 = .ok (.aload_n 0, 1) := by decide +kernel
theorem dX11_fitOffset_23 : decode cX11_fitOffset 23 = .ok (.aload_n 0, 1) := by decide +kernel
theorem dX11_fitOffset_24 : decode cX11_fitOffset 24 = .ok (.getfield 236, 3) := by decide +kernel
theorem dX11_fitOffset_27 : decode cX11_fitOffset 27 = .ok (.ifCond .ne 7, 3) := by decide +kernel
theorem dX11_fitOffset_30 : decode cX11_fitOffset 30 = .ok (.iconst 0, 1) := by decide +kernel
theorem dX11_fitOffset_31 : decode cX11_fitOffset 31 = .ok (.goto 15, 3) := by decide +kernel
theorem dX11_fitOffset_34 : decode cX11_fitOffset 34 = .ok (.aload_n 0, 1) := by decide +kernel
theorem dX11_fitOffset_35 : decode cX11_fitOffset 35 = .ok (.getfield 236, 3) := by decide +kernel
theorem dX11_fitOffset_38 : decode cX11_fitOffset 38 = .ok (.iconst 1, 1) := by decide +kernel
theorem dX11_fitOffset_39 : decode cX11_fitOffset 39 = .ok (.isub, 1) := by decide +kernel
theorem dX11_fitOffset_40 : decode cX11_fitOffset 40 = .ok (.bipush 10, 2) := by decide +kernel
theorem dX11_fitOffset_42 : decode cX11_fitOffset 42 = .ok (.idiv, 1) := by decide +kernel
theorem dX11_fitOffset_43 : decode cX11_fitOffset 43 = .ok (.bipush 10, 2) := by decide +kernel
theorem dX11_fitOffset_45 : decode cX11_fitOffset 45 = .ok (.imul, 1) := by decide +kernel
theorem dX11_fitOffset_46 : decode cX11_fitOffset 46 = .ok (.putfield 274, 3) := by decide +kernel
theorem dX11_fitOffset_49 : decode cX11_fitOffset 49 = .ok (.return_, 1) := by decide +kernel
theorem dX11_isCharacter_0 : decode cX11_isCharacter 0 = .ok (.iload_n 0, 1) := by decide +kernel
theorem dX11_isCharacter_1 : decode cX11_isCharacter 1 = .ok (.bipush 32, 2) := by decide +kernel
theorem dX11_isCharacter_3 : decode cX11_isCharacter 3 = .ok (.bipush 126, 2) := by decide +kernel
theorem dX11_isCharacter_5 : decode cX11_isCharacter 5 = .ok (.invokestatic 114, 3) := by decide +kernel
theorem dX11_isCharacter_8 : decode cX11_isCharacter 8 = .ok (.ifCond .ne 16, 3) := by decide +kernel
theorem dX11_isCharacter_11 : decode cX11_isCharacter 11 = .ok (.iload_n 0, 1) := by decide +kernel
theorem dX11_isCharacter_12 : decode cX11_isCharacter 12 = .ok (.ldc_w 277, 3) := by decide +kernel
theorem dX11_isCharacter_15 : decode cX11_isCharacter 15 = .ok (.ldc_w 278, 3) := by decide +kernel
theorem dX11_isCharacter_18 : decode cX11_isCharacter 18 = .ok (.invokestatic 114, 3) := by decide +kernel
theorem dX11_isCharacter_21 : decode cX11_isCharacter 21 = .ok (.ifCond .eq 7, 3) := by decide +kernel
theorem dX11_isCharacter_24 : decode cX11_isCharacter 24 = .ok (.iconst 1, 1) := by decide +kernel
theorem dX11_isCharacter_25 : decode cX11_isCharacter 25 = .ok (.goto 4, 3) := by decide +kernel
theorem dX11_isCharacter_28 : decode cX11_isCharacter 28 = .ok (.iconst 0, 1) := by decide +kernel
theorem dX11_isCharacter_29 : decode cX11_isCharacter 29 = .ok (.ireturn, 1) := by decide +kernel
theorem dX11_draft_0 : decode cX11_draft 0 = .ok (.aload_n 0, 1) := by decide +kernel
theorem dX11_draft_1 : decode cX11_draft 1 = .ok (.iload_n 1, 1) := by decide +kernel
theorem dX11_draft_2 : decode cX11_draft 2 = .ok (.invokestatic 279, 3) := by decide +kernel
theorem dX11_draft_5 : decode cX11_draft 5 = .ok (.ifCond .ne 7, 3) := by decide +kernel
theorem dX11_draft_8 : decode cX11_draft 8 = .ok (.iconst 1, 1) := by decide +kernel
theorem dX11_draft_9 : decode cX11_draft 9 = .ok (.goto 17, 3) := by decide +kernel
theorem dX11_draft_12 : decode cX11_draft 12 = .ok (.aload_n 0, 1) := by decide +kernel
theorem dX11_draft_13 : decode cX11_draft 13 = .ok (.getfield 282, 3) := by decide +kernel
theorem dX11_draft_16 : decode cX11_draft 16 = .ok (.bipush 12, 2) := by decide +kernel
theorem dX11_draft_18 : decode cX11_draft 18 = .ok (.if_icmp .ne 7, 3) := by decide +kernel
theorem dX11_draft_21 : decode cX11_draft 21 = .ok (.iconst 2, 1) := by decide +kernel
theorem dX11_draft_22 : decode cX11_draft 22 = .ok (.goto 4, 3) := by decide +kernel
theorem dX11_draft_25 : decode cX11_draft 25 = .ok (.iconst 0, 1) := by decide +kernel
theorem dX11_draft_26 : decode cX11_draft 26 = .ok (.putfield 111, 3) := by decide +kernel
theorem dX11_draft_29 : decode cX11_draft 29 = .ok (.aload_n 0, 1) := by decide +kernel
theorem dX11_draft_30 : decode cX11_draft 30 = .ok (.getfield 111, 3) := by decide +kernel
theorem dX11_draft_33 : decode cX11_draft 33 = .ok (.ifCond .le 5, 3) := by decide +kernel
theorem dX11_draft_36 : decode cX11_draft 36 = .ok (.iconst 0, 1) := by decide +kernel
theorem dX11_draft_37 : decode cX11_draft 37 = .ok (.ireturn, 1) := by decide +kernel
theorem dX11_draft_38 : decode cX11_draft 38 = .ok (.aload_n 0, 1) := by decide +kernel
theorem dX11_draft_39 : decode cX11_draft 39 = .ok (.getfield 62, 3) := by decide +kernel
theorem dX11_draft_42 : decode cX11_draft 42 = .ok (.aload_n 0, 1) := by decide +kernel
theorem dX11_draft_43 : decode cX11_draft 43 = .ok (.getfield 282, 3) := by decide +kernel
theorem dX11_draft_46 : decode cX11_draft 46 = .ok (.iload_n 1, 1) := by decide +kernel
theorem dX11_draft_47 : decode cX11_draft 47 = .ok (.iastore, 1) := by decide +kernel
theorem dX11_draft_48 : decode cX11_draft 48 = .ok (.aload_n 0, 1) := by decide +kernel
theorem dX11_draft_49 : decode cX11_draft 49 = .ok (.dup, 1) := by decide +kernel
theorem dX11_draft_50 : decode cX11_draft 50 = .ok (.getfield 282, 3) := by decide +kernel
theorem dX11_draft_53 : decode cX11_draft 53 = .ok (.iconst 1, 1) := by decide +kernel
theorem dX11_draft_54 : decode cX11_draft 54 = .ok (.iadd, 1) := by decide +kernel
theorem dX11_draft_55 : decode cX11_draft 55 = .ok (.putfield 282, 3) := by decide +kernel
theorem dX11_draft_58 : decode cX11_draft 58 = .ok (.aload_n 0, 1) := by decide +kernel
theorem dX11_draft_59 : decode cX11_draft 59 = .ok (.getfield 282, 3) := by decide +kernel
theorem dX11_draft_62 : decode cX11_draft 62 = .ok (.ireturn, 1) := by decide +kernel
abbrev mX11_write : gM := (yX11_write, cX11_write, 7, (Option.none : Option FieldType), [])
theorem caX11_write : cal mX11_write 3 := ⟨xw 1701 (by decide +kernel) rfl, xw 102 (by decide +kernel) rfl, by decide, by decide +kernel⟩
theorem cvX11_write : calV mX11_write := ⟨xw 1700 (by decide +kernel) rfl, xw 53 (by decide +kernel) rfl⟩
abbrev mX11_layLine : gM := (yX11_layLine, cX11_layLine, 2, (Option.none : Option FieldType), [])
theorem caX11_layLine : cal mX11_layLine 0 := ⟨xw 1686 (by decide +kernel) rfl, xw 102 (by decide +kernel) rfl, by decide, by decide +kernel⟩
theorem cvX11_layLine : calV mX11_layLine := ⟨xw 1685 (by decide +kernel) rfl, xw 50 (by decide +kernel) rfl⟩
abbrev mX11_fitOffset : gM := (yX11_fitOffset, cX11_fitOffset, 1, (Option.none : Option FieldType), [])
theorem caX11_fitOffset : cal mX11_fitOffset 0 := ⟨xw 1682 (by decide +kernel) rfl, xw 102 (by decide +kernel) rfl, by decide, by decide +kernel⟩
theorem cvX11_fitOffset : calV mX11_fitOffset := ⟨xw 1681 (by decide +kernel) rfl, xw 49 (by decide +kernel) rfl⟩
abbrev mX11_isCharacter : gM := (yX11_isCharacter, cX11_isCharacter, 1, (Option.some FieldType.boolean), [])
theorem caX11_isCharacter : cal mX11_isCharacter 1 := ⟨xw 1571 (by decide +kernel) rfl, xw 102 (by decide +kernel) rfl, by decide, by decide +kernel⟩
theorem csX11_isCharacter : Cond.static yX11_isCharacter ∈ XW := xw 1570 (by decide +kernel) rfl
abbrev mX11_draft : gM := (yX11_draft, cX11_draft, 2, (Option.some FieldType.int), [])
theorem caX11_draft : cal mX11_draft 1 := ⟨xw 1568 (by decide +kernel) rfl, xw 102 (by decide +kernel) rfl, by decide, by decide +kernel⟩
theorem cvX11_draft : calV mX11_draft := ⟨xw 1566 (by decide +kernel) rfl, xw 1567 (by decide +kernel) rfl⟩
theorem lkX11_251 : Cond.methodLink RX11 251 yX11_isDigit ∈ XW := xw 1702 (by decide +kernel) rfl
theorem lkX11_258 : Cond.methodLink RX11 258 yX11_sign ∈ XW := xw 1715 (by decide +kernel) rfl
theorem lkX11_254 : Cond.methodLink RX11 254 yX11_writeGreat ∈ XW := xw 1708 (by decide +kernel) rfl
theorem lkX11_261 : Cond.methodLink RX11 261 yX11_kindLetter ∈ XW := xw 1687 (by decide +kernel) rfl
theorem lkX11_264 : Cond.methodLink RX11 264 yX11_write ∈ XW := xw 1698 (by decide +kernel) rfl
theorem flX11_267 : fl RX11 267 10 22 := ⟨by decide, by decide, xw 1419 (by decide +kernel) rfl⟩
theorem lkX11_271 : Cond.methodLink RX11 271 yX11_layLine ∈ XW := xw 1683 (by decide +kernel) rfl
theorem flX11_274 : fl RX11 274 10 25 := ⟨by decide, by decide, xw 1422 (by decide +kernel) rfl⟩
theorem ctX11_277 : Cond.constant RX11 277 (119040 : Int32) ∈ XW := xw 1575 (by decide +kernel) rfl
theorem ctX11_278 : Cond.constant RX11 278 (119295 : Int32) ∈ XW := xw 1576 (by decide +kernel) rfl
theorem lkX11_279 : Cond.methodLink RX11 279 yX11_isCharacter ∈ XW := xw 1569 (by decide +kernel) rfl
theorem flX11_282 : fl RX11 282 10 19 := ⟨by decide, by decide, xw 1416 (by decide +kernel) rfl⟩
/-! BrailleDeskModel.write -/
theorem lX11_write_3 {G : gG} {Q : hQ} {P : mm → Prop} {k n : Nat} (a0 : Nat) (h : hp) (c1 : Nat) (c2 : Int32) (c3 : Int32) (hJ : ∀ q : mm, P q → gV G mX11_write 3 Q 168 [none, none, none, none, none, none, none] [] (k) (n) (jn a0 h q)) : ∀ (fu : Nat) (a : (Int32 × mm)), okB (itr (fX11_write_B3 c1 c2 c3) fu a) P → gV G mX11_write 3 Q 3 [some (sr (some a0)), some (sr (some (a0 + mo c1))), some (si c2), some (si c3), some (si a.1), none, none] [] (k) (n) (jn a0 h a.2) :=
  lpg (X := fun (a : (Int32 × mm)) => gV G mX11_write 3 Q 3 [some (sr (some a0)), some (sr (some (a0 + mo c1))), some (si c2), some (si c3), some (si a.1), none, none] [] (k) (n) (jn a0 h a.2)) (fun a P2 hL hE hF => by
    delta fX11_write_B3 at hF
    refine v_iload (pc := 3) (i := 4) dX11_write_3 rfl ?_
    refine v_iload_n (pc := 5) (i := 3) dX11_write_5 rfl rfl ?_
    refine v_icmp_ge (pc := 6) 168 dX11_write_6 rfl (fun hc => ?_) (fun hc => ?_)
    · replace hF := (okB_if hF).1 hc
      exact v_lle [none, none, none, none, none, none, none] trivial (hJ a.2 (hE _ (okB_some hF)))
    replace hF := (okB_if hF).2 hc
    refine v_aload_n (pc := 9) (i := 1) dX11_write_9 rfl rfl ?_
    refine v_iload_n (pc := 10) (i := 2) dX11_write_10 rfl rfl ?_
    refine v_iload (pc := 11) (i := 4) dX11_write_11 rfl ?_
    refine v_iadd (pc := 13) dX11_write_13 ?_
    refine m_iald (pc := 14) (j := c1) dX11_write_14 hF (fun x1 hF => ?_)
    refine v_istore (pc := 15) (i := 5) [some (sr (some a0)), some (sr (some (a0 + mo c1))), some (si c2), some (si c3), some (si a.1), some (si x1), none] dX11_write_15 (by decide) rfl rfl ?_
    refine v_iload (pc := 17) (i := 4) dX11_write_17 rfl ?_
    refine mg (X := fun q2 => gV G mX11_write 3 Q 41 [some (sr (some a0)), some (sr (some (a0 + mo c1))), some (si c2), some (si c3), some (si a.1), some (si x1), none] [si q2] (k) (n) (jn a0 h a.2)) hF (fun _ hj3 hF => ?_) (fun q2 hF => ?_)
    · refine v_if_le (pc := 19) 40 dX11_write_19 rfl (fun hc => ?_) (fun hc => ?_)
      · replace hF := (okB_if hF).1 hc
        refine v_iconst (pc := 40) (v := (0 : Int32)) dX11_write_40 rfl ?_
        exact v_lle [some (sr (some a0)), some (sr (some (a0 + mo c1))), some (si c2), some (si c3), some (si a.1), some (si x1), none] ⟨rfl, rfl, rfl, rfl, rfl, rfl, trivial⟩ (hj3 (0 : Int32) (okB_some hF))
      replace hF := (okB_if hF).2 hc
      refine v_aload_n (pc := 22) (i := 1) dX11_write_22 rfl rfl ?_
      refine v_iload_n (pc := 23) (i := 2) dX11_write_23 rfl rfl ?_
      refine v_iload (pc := 24) (i := 4) dX11_write_24 rfl ?_
      refine v_iadd (pc := 26) dX11_write_26 ?_
      refine v_iconst (pc := 27) (v := (1 : Int32)) dX11_write_27 rfl ?_
      refine v_isub (pc := 28) dX11_write_28 ?_
      refine m_iald (pc := 29) (j := c1) dX11_write_29 hF (fun x4 hF => ?_)
      refine cp_S (pc := 30) gI (as := [si x4]) (st := []) (N := mX11_isDigit) (k := k) (n := n) (k1 := 0) (n1 := 0) dX11_write_30 lkX11_251 caX11_isDigit csX11_isDigit rfl (fun Q1 hq => tX11_isDigit x4 (jn a0 h a.2) Q1 hq) ⟨by decide, by decide⟩ (Nat.le_of_ble_eq_true rfl) rfl hF (fun x5 hF => ?_)
      show gV G mX11_write 3 Q 33 [some (sr (some a0)), some (sr (some (a0 + mo c1))), some (si c2), some (si c3), some (si a.1), some (si x1), none] [si x5] (k) (n) (jn a0 h a.2)
      refine v_if_eq (pc := 33) 40 dX11_write_33 rfl (fun hc => ?_) (fun hc => ?_)
      · replace hF := (okB_if hF).1 hc
        refine v_iconst (pc := 40) (v := (0 : Int32)) dX11_write_40 rfl ?_
        exact v_lle [some (sr (some a0)), some (sr (some (a0 + mo c1))), some (si c2), some (si c3), some (si a.1), some (si x1), none] ⟨rfl, rfl, rfl, rfl, rfl, rfl, trivial⟩ (hj3 (0 : Int32) (okB_some hF))
      replace hF := (okB_if hF).2 hc
      refine v_iconst (pc := 36) (v := (1 : Int32)) dX11_write_36 rfl ?_
      refine v_goto (pc := 37) 41 dX11_write_37 rfl ?_
      exact v_lle [some (sr (some a0)), some (sr (some (a0 + mo c1))), some (si c2), some (si c3), some (si a.1), some (si x1), none] ⟨rfl, rfl, rfl, rfl, rfl, rfl, trivial⟩ (hj3 (1 : Int32) (okB_some hF))
    refine v_istore (pc := 41) (i := 6) [some (sr (some a0)), some (sr (some (a0 + mo c1))), some (si c2), some (si c3), some (si a.1), some (si x1), some (si q2)] dX11_write_41 (by decide) rfl rfl ?_
    refine v_iload (pc := 43) (i := 5) dX11_write_43 rfl ?_
    refine cp_S (pc := 45) gI (as := [si x1]) (st := []) (N := mX11_isGreat) (k := k) (n := n) (k1 := 0) (n1 := 0) dX11_write_45 lkX11_242 caX11_isGreat csX11_isGreat rfl (fun Q1 hq => tX11_isGreat x1 (jn a0 h a.2) Q1 hq) ⟨by decide, by decide⟩ (Nat.le_of_ble_eq_true rfl) rfl hF (fun x6 hF => ?_)
    show gV G mX11_write 3 Q 48 [some (sr (some a0)), some (sr (some (a0 + mo c1))), some (si c2), some (si c3), some (si a.1), some (si x1), some (si q2)] [si x6] (k) (n) (jn a0 h a.2)
    refine v_if_eq (pc := 48) 63 dX11_write_48 rfl (fun hc => ?_) (fun hc => ?_)
    · replace hF := (okB_if hF).1 hc
      refine v_iload (pc := 63) (i := 5) dX11_write_63 rfl ?_
      refine cp_S (pc := 65) gI (as := [si x1]) (st := []) (N := mX11_isSmall) (k := k) (n := n) (k1 := 0) (n1 := 0) dX11_write_65 lkX11_239 caX11_isSmall csX11_isSmall rfl (fun Q1 hq => tX11_isSmall x1 (jn a0 h a.2) Q1 hq) ⟨by decide, by decide⟩ (Nat.le_of_ble_eq_true rfl) rfl hF (fun x7 hF => ?_)
      show gV G mX11_write 3 Q 68 [some (sr (some a0)), some (sr (some (a0 + mo c1))), some (si c2), some (si c3), some (si a.1), some (si x1), some (si q2)] [si x7] (k) (n) (jn a0 h a.2)
      refine v_if_eq (pc := 68) 105 dX11_write_68 rfl (fun hc => ?_) (fun hc => ?_)
      · replace hF := (okB_if hF).1 hc
        refine v_iload (pc := 105) (i := 5) dX11_write_105 rfl ?_
        refine cp_S (pc := 107) gI (as := [si x1]) (st := []) (N := mX11_isDigit) (k := k) (n := n) (k1 := 0) (n1 := 0) dX11_write_107 lkX11_251 caX11_isDigit csX11_isDigit rfl (fun Q1 hq => tX11_isDigit x1 (jn a0 h a.2) Q1 hq) ⟨by decide, by decide⟩ (Nat.le_of_ble_eq_true rfl) rfl hF (fun x8 hF => ?_)
        show gV G mX11_write 3 Q 110 [some (sr (some a0)), some (sr (some (a0 + mo c1))), some (si c2), some (si c3), some (si a.1), some (si x1), some (si q2)] [si x8] (k) (n) (jn a0 h a.2)
        refine v_if_eq (pc := 110) 153 dX11_write_110 rfl (fun hc => ?_) (fun hc => ?_)
        · replace hF := (okB_if hF).1 hc
          refine v_aload_n (pc := 153) (i := 0) dX11_write_153 rfl rfl ?_
          refine v_iload (pc := 154) (i := 5) dX11_write_154 rfl ?_
          refine cp_S (pc := 156) gI (as := [si x1]) (st := [sr (some a0)]) (N := mX11_sign) (k := k) (n := n) (k1 := 0) (n1 := 0) dX11_write_156 lkX11_258 caX11_sign csX11_sign rfl (fun Q1 hq => tX11_sign x1 (jn a0 h a.2) Q1 hq) ⟨by decide, by decide⟩ (Nat.le_of_ble_eq_true rfl) rfl hF (fun x9 hF => ?_)
          show gV G mX11_write 3 Q 159 [some (sr (some a0)), some (sr (some (a0 + mo c1))), some (si c2), some (si c3), some (si a.1), some (si x1), some (si q2)] [si x9, sr (some a0)] (k) (n) (jn a0 h a.2)
          refine chM_V (pc := 159) gU (as := [si x9]) (st := []) (N := mX11_cell) (k := k) (n := n) (k1 := 0) (n1 := 0) dX11_write_159 lkX11_245 caX11_cell cvX11_cell rfl rfl (fun Q1 hq => tX11_cell a0 h x9 a.2 Q1 hq) ⟨by decide, by decide⟩ (Nat.le_of_ble_eq_true rfl) rfl hF (fun x10 m11 hF => ?_)
          show gV G mX11_write 3 Q 162 [some (sr (some a0)), some (sr (some (a0 + mo c1))), some (si c2), some (si c3), some (si a.1), some (si x1), some (si q2)] [] (k) (n) (jn a0 h m11)
          refine v_iinc (pc := 162) (i := 4) (a.1 + (1 : Int32)) [some (sr (some a0)), some (sr (some (a0 + mo c1))), some (si c2), some (si c3), some (si (a.1 + (1 : Int32))), some (si x1), some (si q2)] dX11_write_162 rfl rfl rfl rfl ?_
          refine v_goto (pc := 165) 3 dX11_write_165 rfl ?_
          exact v_lle [some (sr (some a0)), some (sr (some (a0 + mo c1))), some (si c2), some (si c3), some (si (a.1 + (1 : Int32))), none, none] ⟨rfl, rfl, rfl, rfl, rfl, trivial⟩ (hL (a.1 + (1 : Int32), m11) (okB_some hF))
        replace hF := (okB_if hF).2 hc
        refine v_iload (pc := 113) (i := 6) dX11_write_113 rfl ?_
        refine mg (X := fun q12 => gV G mX11_write 3 Q 124 [some (sr (some a0)), some (sr (some (a0 + mo c1))), some (si c2), some (si c3), some (si a.1), some (si x1), none] [] (k) (n) (jn a0 h q12)) hF (fun _ hj13 hF => ?_) (fun q12 hF => ?_)
        · refine v_if_ne (pc := 115) 124 dX11_write_115 rfl (fun hc => ?_) (fun hc => ?_)
          · replace hF := (okB_if hF).2 hc
            exact v_lle [some (sr (some a0)), some (sr (some (a0 + mo c1))), some (si c2), some (si c3), some (si a.1), some (si x1), none] ⟨rfl, rfl, rfl, rfl, rfl, rfl, trivial⟩ (hj13 a.2 (okB_some hF))
          replace hF := (okB_if hF).1 hc
          refine v_aload_n (pc := 118) (i := 0) dX11_write_118 rfl rfl ?_
          refine v_bipush (pc := 119) (v := (60 : Int32)) dX11_write_119 rfl ?_
          refine chM_V (pc := 121) gU (as := [si (60 : Int32)]) (st := []) (N := mX11_cell) (k := k) (n := n) (k1 := 0) (n1 := 0) dX11_write_121 lkX11_245 caX11_cell cvX11_cell rfl rfl (fun Q1 hq => tX11_cell a0 h (60 : Int32) a.2 Q1 hq) ⟨by decide, by decide⟩ (Nat.le_of_ble_eq_true rfl) rfl hF (fun x14 m15 hF => ?_)
          show gV G mX11_write 3 Q 124 [some (sr (some a0)), some (sr (some (a0 + mo c1))), some (si c2), some (si c3), some (si a.1), some (si x1), some (si q2)] [] (k) (n) (jn a0 h m15)
          exact v_lle [some (sr (some a0)), some (sr (some (a0 + mo c1))), some (si c2), some (si c3), some (si a.1), some (si x1), none] ⟨rfl, rfl, rfl, rfl, rfl, rfl, trivial⟩ (hj13 m15 (okB_some hF))
        refine v_aload_n (pc := 124) (i := 0) dX11_write_124 rfl rfl ?_
        refine v_aload_n (pc := 125) (i := 0) dX11_write_125 rfl rfl ?_
        refine m_getA (pc := 126) (j := 47) dX11_write_126 flX11_89 rfl (by decide) ?_
        refine v_iload (pc := 129) (i := 5) dX11_write_129 rfl ?_
        refine v_bipush (pc := 131) (v := (48 : Int32)) dX11_write_131 rfl ?_
        refine mg (X := fun q16 => gV G mX11_write 3 Q 146 [some (sr (some a0)), some (sr (some (a0 + mo c1))), some (si c2), some (si c3), some (si a.1), none, none] [si q16, sr (some (a0 + mo 47)), sr (some a0)] (k) (n) (jn a0 h q12)) hF (fun _ hj17 hF => ?_) (fun q16 hF => ?_)
        · refine v_icmp_ne (pc := 133) 141 dX11_write_133 rfl (fun hc => ?_) (fun hc => ?_)
          · replace hF := (okB_if hF).2 hc
            refine v_iload (pc := 141) (i := 5) dX11_write_141 rfl ?_
            refine v_bipush (pc := 143) (v := (49 : Int32)) dX11_write_143 rfl ?_
            refine v_isub (pc := 145) dX11_write_145 ?_
            exact v_lle [some (sr (some a0)), some (sr (some (a0 + mo c1))), some (si c2), some (si c3), some (si a.1), none, none] ⟨rfl, rfl, rfl, rfl, rfl, trivial⟩ (hj17 (x1 - (49 : Int32)) (okB_some hF))
          replace hF := (okB_if hF).1 hc
          refine v_bipush (pc := 136) (v := (9 : Int32)) dX11_write_136 rfl ?_
          refine v_goto (pc := 138) 146 dX11_write_138 rfl ?_
          exact v_lle [some (sr (some a0)), some (sr (some (a0 + mo c1))), some (si c2), some (si c3), some (si a.1), none, none] ⟨rfl, rfl, rfl, rfl, rfl, trivial⟩ (hj17 (9 : Int32) (okB_some hF))
        refine m_iald (pc := 146) (j := 47) dX11_write_146 hF (fun x18 hF => ?_)
        refine chM_V (pc := 147) gU (as := [si x18]) (st := []) (N := mX11_cell) (k := k) (n := n) (k1 := 0) (n1 := 0) dX11_write_147 lkX11_245 caX11_cell cvX11_cell rfl rfl (fun Q1 hq => tX11_cell a0 h x18 q12 Q1 hq) ⟨by decide, by decide⟩ (Nat.le_of_ble_eq_true rfl) rfl hF (fun x19 m20 hF => ?_)
        show gV G mX11_write 3 Q 150 [some (sr (some a0)), some (sr (some (a0 + mo c1))), some (si c2), some (si c3), some (si a.1), none, none] [] (k) (n) (jn a0 h m20)
        refine v_goto (pc := 150) 162 dX11_write_150 rfl ?_
        refine v_iinc (pc := 162) (i := 4) (a.1 + (1 : Int32)) [some (sr (some a0)), some (sr (some (a0 + mo c1))), some (si c2), some (si c3), some (si (a.1 + (1 : Int32))), none, none] dX11_write_162 rfl rfl rfl rfl ?_
        refine v_goto (pc := 165) 3 dX11_write_165 rfl ?_
        exact v_lle [some (sr (some a0)), some (sr (some (a0 + mo c1))), some (si c2), some (si c3), some (si (a.1 + (1 : Int32))), none, none] ⟨rfl, rfl, rfl, rfl, rfl, trivial⟩ (hL (a.1 + (1 : Int32), m20) (okB_some hF))
      replace hF := (okB_if hF).2 hc
      refine v_iload (pc := 71) (i := 6) dX11_write_71 rfl ?_
      refine mg (X := fun q21 => gV G mX11_write 3 Q 89 [some (sr (some a0)), some (sr (some (a0 + mo c1))), some (si c2), some (si c3), some (si a.1), some (si x1), none] [] (k) (n) (jn a0 h q21)) hF (fun _ hj22 hF => ?_) (fun q21 hF => ?_)
      · refine v_if_eq (pc := 73) 89 dX11_write_73 rfl (fun hc => ?_) (fun hc => ?_)
        · replace hF := (okB_if hF).1 hc
          exact v_lle [some (sr (some a0)), some (sr (some (a0 + mo c1))), some (si c2), some (si c3), some (si a.1), some (si x1), none] ⟨rfl, rfl, rfl, rfl, rfl, rfl, trivial⟩ (hj22 a.2 (okB_some hF))
        replace hF := (okB_if hF).2 hc
        refine v_iload (pc := 76) (i := 5) dX11_write_76 rfl ?_
        refine v_bipush (pc := 78) (v := (106 : Int32)) dX11_write_78 rfl ?_
        refine v_icmp_gt (pc := 80) 89 dX11_write_80 rfl (fun hc => ?_) (fun hc => ?_)
        · replace hF := (okB_if hF).1 hc
          exact v_lle [some (sr (some a0)), some (sr (some (a0 + mo c1))), some (si c2), some (si c3), some (si a.1), some (si x1), none] ⟨rfl, rfl, rfl, rfl, rfl, rfl, trivial⟩ (hj22 a.2 (okB_some hF))
        replace hF := (okB_if hF).2 hc
        refine v_aload_n (pc := 83) (i := 0) dX11_write_83 rfl rfl ?_
        refine v_bipush (pc := 84) (v := (48 : Int32)) dX11_write_84 rfl ?_
        refine chM_V (pc := 86) gU (as := [si (48 : Int32)]) (st := []) (N := mX11_cell) (k := k) (n := n) (k1 := 0) (n1 := 0) dX11_write_86 lkX11_245 caX11_cell cvX11_cell rfl rfl (fun Q1 hq => tX11_cell a0 h (48 : Int32) a.2 Q1 hq) ⟨by decide, by decide⟩ (Nat.le_of_ble_eq_true rfl) rfl hF (fun x23 m24 hF => ?_)
        show gV G mX11_write 3 Q 89 [some (sr (some a0)), some (sr (some (a0 + mo c1))), some (si c2), some (si c3), some (si a.1), some (si x1), some (si q2)] [] (k) (n) (jn a0 h m24)
        exact v_lle [some (sr (some a0)), some (sr (some (a0 + mo c1))), some (si c2), some (si c3), some (si a.1), some (si x1), none] ⟨rfl, rfl, rfl, rfl, rfl, rfl, trivial⟩ (hj22 m24 (okB_some hF))
      refine v_aload_n (pc := 89) (i := 0) dX11_write_89 rfl rfl ?_
      refine v_aload_n (pc := 90) (i := 0) dX11_write_90 rfl rfl ?_
      refine v_iload (pc := 91) (i := 5) dX11_write_91 rfl ?_
      refine v_bipush (pc := 93) (v := (97 : Int32)) dX11_write_93 rfl ?_
      refine v_isub (pc := 95) dX11_write_95 ?_
      refine cpM_V (pc := 96) gI (as := [si (x1 - (97 : Int32))]) (st := [sr (some a0)]) (N := mX11_points) (k := k) (n := n) (k1 := 0) (n1 := 0) dX11_write_96 lkX11_248 caX11_points cvX11_points rfl rfl (fun Q1 hq => tX11_points a0 h (x1 - (97 : Int32)) q21 Q1 hq) ⟨by decide, by decide⟩ (Nat.le_of_ble_eq_true rfl) rfl hF (fun x25 hF => ?_)
      show gV G mX11_write 3 Q 99 [some (sr (some a0)), some (sr (some (a0 + mo c1))), some (si c2), some (si c3), some (si a.1), some (si x1), none] [si x25, sr (some a0)] (k) (n) (jn a0 h q21)
      refine chM_V (pc := 99) gU (as := [si x25]) (st := []) (N := mX11_cell) (k := k) (n := n) (k1 := 0) (n1 := 0) dX11_write_99 lkX11_245 caX11_cell cvX11_cell rfl rfl (fun Q1 hq => tX11_cell a0 h x25 q21 Q1 hq) ⟨by decide, by decide⟩ (Nat.le_of_ble_eq_true rfl) rfl hF (fun x26 m27 hF => ?_)
      show gV G mX11_write 3 Q 102 [some (sr (some a0)), some (sr (some (a0 + mo c1))), some (si c2), some (si c3), some (si a.1), some (si x1), none] [] (k) (n) (jn a0 h m27)
      refine v_goto (pc := 102) 162 dX11_write_102 rfl ?_
      refine v_iinc (pc := 162) (i := 4) (a.1 + (1 : Int32)) [some (sr (some a0)), some (sr (some (a0 + mo c1))), some (si c2), some (si c3), some (si (a.1 + (1 : Int32))), some (si x1), none] dX11_write_162 rfl rfl rfl rfl ?_
      refine v_goto (pc := 165) 3 dX11_write_165 rfl ?_
      exact v_lle [some (sr (some a0)), some (sr (some (a0 + mo c1))), some (si c2), some (si c3), some (si (a.1 + (1 : Int32))), none, none] ⟨rfl, rfl, rfl, rfl, rfl, trivial⟩ (hL (a.1 + (1 : Int32), m27) (okB_some hF))
    replace hF := (okB_if hF).2 hc
    refine v_aload_n (pc := 51) (i := 0) dX11_write_51 rfl rfl ?_
    refine v_aload_n (pc := 52) (i := 1) dX11_write_52 rfl rfl ?_
    refine v_iload_n (pc := 53) (i := 2) dX11_write_53 rfl rfl ?_
    refine v_iload_n (pc := 54) (i := 3) dX11_write_54 rfl rfl ?_
    refine v_iload (pc := 55) (i := 4) dX11_write_55 rfl ?_
    refine chM_V (pc := 57) gU (as := [sr (some (a0 + mo c1)), si c2, si c3, si a.1]) (st := []) (N := mX11_writeGreat) (k := k) (n := n) (k1 := 0) (n1 := 0) dX11_write_57 lkX11_254 caX11_writeGreat cvX11_writeGreat rfl rfl (fun Q1 hq => tX11_writeGreat a0 h c1 c2 c3 a.1 a.2 Q1 hq) ⟨by decide, by decide⟩ (Nat.le_of_ble_eq_true rfl) rfl hF (fun x28 m29 hF => ?_)
    show gV G mX11_write 3 Q 60 [some (sr (some a0)), some (sr (some (a0 + mo c1))), some (si c2), some (si c3), some (si a.1), some (si x1), some (si q2)] [] (k) (n) (jn a0 h m29)
    refine v_goto (pc := 60) 162 dX11_write_60 rfl ?_
    refine v_iinc (pc := 162) (i := 4) (a.1 + (1 : Int32)) [some (sr (some a0)), some (sr (some (a0 + mo c1))), some (si c2), some (si c3), some (si (a.1 + (1 : Int32))), some (si x1), some (si q2)] dX11_write_162 rfl rfl rfl rfl ?_
    refine v_goto (pc := 165) 3 dX11_write_165 rfl ?_
    exact v_lle [some (sr (some a0)), some (sr (some (a0 + mo c1))), some (si c2), some (si c3), some (si (a.1 + (1 : Int32))), none, none] ⟨rfl, rfl, rfl, rfl, rfl, trivial⟩ (hL (a.1 + (1 : Int32), m29) (okB_some hF)))
theorem tX11_write {G : gG} (a0 : Nat) (h : hp) (a1 : Nat) (a2 : Int32) (a3 : Int32) (m : mm) (Q : hQ) (hF : okB (fX11_write a1 a2 a3 m) (pM gU Q a0 h)) : gS G mX11_write 3 0 0 [sr (some a0), sr (some (a0 + mo a1)), si a2, si a3] (jn a0 h m) Q := by
  delta fX11_write at hF
  refine gS_at [some (sr (some a0)), some (sr (some (a0 + mo a1))), some (si a2), some (si a3), none, none, none] pl_X11 rfl (Nat.le_of_ble_eq_true rfl) rfl ?_
  refine v_iconst (pc := 0) (v := (0 : Int32)) dX11_write_0 rfl ?_
  refine v_istore (pc := 1) (i := 4) [some (sr (some a0)), some (sr (some (a0 + mo a1))), some (si a2), some (si a3), some (si (0 : Int32)), none, none] dX11_write_1 (by decide) rfl rfl ?_
  refine mg (X := fun q1 => gV G mX11_write 3 Q 168 [none, none, none, none, none, none, none] [] (0) (0) (jn a0 h q1)) hF (fun _ hj2 hF => v_lle [some (sr (some a0)), some (sr (some (a0 + mo a1))), some (si a2), some (si a3), some (si (0 : Int32)), none, none] ⟨rfl, rfl, rfl, rfl, rfl, trivial⟩ (lX11_write_3 a0 h a1 a2 a3 hj2 FU ((0 : Int32), m) hF)) (fun q1 hF => ?_)
  exact v_ret (pc := 168) dX11_write_168 rfl (okr hF fun q => q)
/-! BrailleDeskModel.layLine -/
theorem tX11_layLine {G : gG} (a0 : Nat) (h : hp)  (m : mm) (Q : hQ) (hF : okB (fX11_layLine m) (pM gU Q a0 h)) : gS G mX11_layLine 4 0 0 [sr (some a0)] (jn a0 h m) Q := by
  delta fX11_layLine at hF
  refine gS_at [some (sr (some a0)), none] pl_X11 rfl (Nat.le_of_ble_eq_true rfl) rfl ?_
  refine v_aload_n (pc := 0) (i := 0) dX11_layLine_0 rfl rfl ?_
  refine m_getA (pc := 1) (j := 2) dX11_layLine_1 flX11_13 rfl (by decide) ?_
  refine v_aload_n (pc := 4) (i := 0) dX11_layLine_4 rfl rfl ?_
  refine m_getI (pc := 5) (j := 20) dX11_layLine_5 flX11_128 rfl rfl ?_
  refine m_iald (pc := 8) (j := 2) dX11_layLine_8 hF (fun x1 hF => ?_)
  refine v_istore_n (pc := 9) (i := 1) [some (sr (some a0)), some (si x1)] dX11_layLine_9 rfl (by decide) rfl rfl ?_
  refine v_aload_n (pc := 10) (i := 0) dX11_layLine_10 rfl rfl ?_
  refine v_iconst (pc := 11) (v := (0 : Int32)) dX11_layLine_11 rfl ?_
  refine m_putI (pc := 12) (j := 53) dX11_layLine_12 flX11_236 rfl rfl rfl hF (fun m2 hF => ?_)
  refine v_aload_n (pc := 15) (i := 0) dX11_layLine_15 rfl rfl ?_
  refine v_aload_n (pc := 16) (i := 0) dX11_layLine_16 rfl rfl ?_
  refine m_getI (pc := 17) (j := 20) dX11_layLine_17 flX11_128 rfl rfl ?_
  refine cpM_V (pc := 20) gI (as := [si (m2 20 0)]) (st := []) (N := mX11_levelOf) (k := 0) (n := 0) (k1 := 0) (n1 := 0) dX11_layLine_20 lkX11_164 caX11_levelOf cvX11_levelOf rfl rfl (fun Q1 hq => tX11_levelOf a0 h (m2 20 0) m2 Q1 hq) ⟨by decide, by decide⟩ (Nat.le_of_ble_eq_true rfl) rfl hF (fun x3 hF => ?_)
  show gV G mX11_layLine 4 Q 23 [some (sr (some a0)), some (si x1)] [si x3] (0) (0) (jn a0 h m2)
  refine mg (X := fun q4 => gV G mX11_layLine 4 Q 47 [some (sr (some a0)), some (si x1)] [] (0) (0) (jn a0 h q4)) hF (fun _ hj5 hF => ?_) (fun q4 hF => ?_)
  · refine v_if_eq (pc := 23) 47 dX11_layLine_23 rfl (fun hc => ?_) (fun hc => ?_)
    · replace hF := (okB_if hF).1 hc
      exact v_lle [some (sr (some a0)), some (si x1)] ⟨rfl, rfl, trivial⟩ (hj5 m2 (okB_some hF))
    replace hF := (okB_if hF).2 hc
    refine v_iload_n (pc := 26) (i := 1) dX11_layLine_26 rfl rfl ?_
    refine v_iconst (pc := 27) (v := (1 : Int32)) dX11_layLine_27 rfl ?_
    refine v_icmp_eq (pc := 28) 47 dX11_layLine_28 rfl (fun hc => ?_) (fun hc => ?_)
    · replace hF := (okB_if hF).1 hc
      exact v_lle [some (sr (some a0)), some (si x1)] ⟨rfl, rfl, trivial⟩ (hj5 m2 (okB_some hF))
    replace hF := (okB_if hF).2 hc
    refine v_aload_n (pc := 31) (i := 0) dX11_layLine_31 rfl rfl ?_
    refine v_aload_n (pc := 32) (i := 0) dX11_layLine_32 rfl rfl ?_
    refine v_iload_n (pc := 33) (i := 1) dX11_layLine_33 rfl rfl ?_
    refine cp_S (pc := 34) gI (as := [si x1]) (st := [sr (some a0), sr (some a0)]) (N := mX11_kindLetter) (k := 0) (n := 0) (k1 := 0) (n1 := 0) dX11_layLine_34 lkX11_261 caX11_kindLetter csX11_kindLetter rfl (fun Q1 hq => tX11_kindLetter x1 (jn a0 h m2) Q1 hq) ⟨by decide, by decide⟩ (Nat.le_of_ble_eq_true rfl) rfl hF (fun x6 hF => ?_)
    show gV G mX11_layLine 4 Q 37 [some (sr (some a0)), some (si x1)] [si x6, sr (some a0), sr (some a0)] (0) (0) (jn a0 h m2)
    refine cpM_V (pc := 37) gI (as := [si x6]) (st := [sr (some a0)]) (N := mX11_points) (k := 0) (n := 0) (k1 := 0) (n1 := 0) dX11_layLine_37 lkX11_248 caX11_points cvX11_points rfl rfl (fun Q1 hq => tX11_points a0 h x6 m2 Q1 hq) ⟨by decide, by decide⟩ (Nat.le_of_ble_eq_true rfl) rfl hF (fun x7 hF => ?_)
    show gV G mX11_layLine 4 Q 40 [some (sr (some a0)), some (si x1)] [si x7, sr (some a0)] (0) (0) (jn a0 h m2)
    refine v_sipush (pc := 40) (v := (192 : Int32)) dX11_layLine_40 rfl ?_
    refine v_iadd (pc := 43) dX11_layLine_43 ?_
    refine chM_V (pc := 44) gU (as := [si (x7 + (192 : Int32))]) (st := []) (N := mX11_cell) (k := 0) (n := 0) (k1 := 0) (n1 := 0) dX11_layLine_44 lkX11_245 caX11_cell cvX11_cell rfl rfl (fun Q1 hq => tX11_cell a0 h (x7 + (192 : Int32)) m2 Q1 hq) ⟨by decide, by decide⟩ (Nat.le_of_ble_eq_true rfl) rfl hF (fun x8 m9 hF => ?_)
    show gV G mX11_layLine 4 Q 47 [some (sr (some a0)), some (si x1)] [] (0) (0) (jn a0 h m9)
    exact v_lle [some (sr (some a0)), some (si x1)] ⟨rfl, rfl, trivial⟩ (hj5 m9 (okB_some hF))
  refine v_aload_n (pc := 47) (i := 0) dX11_layLine_47 rfl rfl ?_
  refine v_aload_n (pc := 48) (i := 0) dX11_layLine_48 rfl rfl ?_
  refine m_getA (pc := 49) (j := 6) dX11_layLine_49 flX11_26 rfl (by decide) ?_
  refine v_bipush (pc := 52) (v := (12 : Int32)) dX11_layLine_52 rfl ?_
  refine v_aload_n (pc := 54) (i := 0) dX11_layLine_54 rfl rfl ?_
  refine m_getI (pc := 55) (j := 20) dX11_layLine_55 flX11_128 rfl rfl ?_
  refine v_imul (pc := 58) dX11_layLine_58 ?_
  refine v_aload_n (pc := 59) (i := 0) dX11_layLine_59 rfl rfl ?_
  refine m_getA (pc := 60) (j := 7) dX11_layLine_60 flX11_29 rfl (by decide) ?_
  refine v_aload_n (pc := 63) (i := 0) dX11_layLine_63 rfl rfl ?_
  refine m_getI (pc := 64) (j := 20) dX11_layLine_64 flX11_128 rfl rfl ?_
  refine m_iald (pc := 67) (j := 7) dX11_layLine_67 hF (fun x10 hF => ?_)
  refine chM_V (pc := 68) gU (as := [sr (some (a0 + mo 6)), si ((12 : Int32) * (q4 20 0)), si x10]) (st := []) (N := mX11_write) (k := 0) (n := 0) (k1 := 0) (n1 := 0) dX11_layLine_68 lkX11_264 caX11_write cvX11_write rfl rfl (fun Q1 hq => tX11_write a0 h 6 ((12 : Int32) * (q4 20 0)) x10 q4 Q1 hq) ⟨by decide, by decide⟩ (Nat.le_of_ble_eq_true rfl) rfl hF (fun x11 m12 hF => ?_)
  show gV G mX11_layLine 4 Q 71 [some (sr (some a0)), some (si x1)] [] (0) (0) (jn a0 h m12)
  refine v_iload_n (pc := 71) (i := 1) dX11_layLine_71 rfl rfl ?_
  refine v_iconst (pc := 72) (v := (3 : Int32)) dX11_layLine_72 rfl ?_
  refine mg (X := fun q13 => gV G mX11_layLine 4 Q 104 [some (sr (some a0)), none] [] (0) (0) (jn a0 h q13)) hF (fun _ hj14 hF => ?_) (fun q13 hF => ?_)
  · refine v_icmp_ne (pc := 73) 104 dX11_layLine_73 rfl (fun hc => ?_) (fun hc => ?_)
    · replace hF := (okB_if hF).2 hc
      exact v_lle [some (sr (some a0)), none] ⟨rfl, trivial⟩ (hj14 m12 (okB_some hF))
    replace hF := (okB_if hF).1 hc
    refine v_aload_n (pc := 76) (i := 0) dX11_layLine_76 rfl rfl ?_
    refine v_iconst (pc := 77) (v := (0 : Int32)) dX11_layLine_77 rfl ?_
    refine chM_V (pc := 78) gU (as := [si (0 : Int32)]) (st := []) (N := mX11_cell) (k := 0) (n := 0) (k1 := 0) (n1 := 0) dX11_layLine_78 lkX11_245 caX11_cell cvX11_cell rfl rfl (fun Q1 hq => tX11_cell a0 h (0 : Int32) m12 Q1 hq) ⟨by decide, by decide⟩ (Nat.le_of_ble_eq_true rfl) rfl hF (fun x15 m16 hF => ?_)
    show gV G mX11_layLine 4 Q 81 [some (sr (some a0)), some (si x1)] [] (0) (0) (jn a0 h m16)
    refine v_aload_n (pc := 81) (i := 0) dX11_layLine_81 rfl rfl ?_
    refine v_aload_n (pc := 82) (i := 0) dX11_layLine_82 rfl rfl ?_
    refine m_getA (pc := 83) (j := 10) dX11_layLine_83 flX11_38 rfl (by decide) ?_
    refine v_aload_n (pc := 86) (i := 0) dX11_layLine_86 rfl rfl ?_
    refine m_getI (pc := 87) (j := 20) dX11_layLine_87 flX11_128 rfl rfl ?_
    refine m_zald (pc := 90) (j := 10) dX11_layLine_90 hF (fun x17 hF => ?_)
    refine v_if_eq (pc := 91) 99 dX11_layLine_91 rfl (fun hc => ?_) (fun hc => ?_)
    · replace hF := (okB_if hF).1 hc
      refine v_bipush (pc := 99) (v := (36 : Int32)) dX11_layLine_99 rfl ?_
      refine chM_V (pc := 101) gU (as := [si (36 : Int32)]) (st := []) (N := mX11_cell) (k := 0) (n := 0) (k1 := 0) (n1 := 0) dX11_layLine_101 lkX11_245 caX11_cell cvX11_cell rfl rfl (fun Q1 hq => tX11_cell a0 h (36 : Int32) m16 Q1 hq) ⟨by decide, by decide⟩ (Nat.le_of_ble_eq_true rfl) rfl hF (fun x18 m19 hF => ?_)
      show gV G mX11_layLine 4 Q 104 [some (sr (some a0)), some (si x1)] [] (0) (0) (jn a0 h m19)
      exact v_lle [some (sr (some a0)), none] ⟨rfl, trivial⟩ (hj14 m19 (okB_some hF))
    replace hF := (okB_if hF).2 hc
    refine v_bipush (pc := 94) (v := (63 : Int32)) dX11_layLine_94 rfl ?_
    refine v_goto (pc := 96) 101 dX11_layLine_96 rfl ?_
    refine chM_V (pc := 101) gU (as := [si (63 : Int32)]) (st := []) (N := mX11_cell) (k := 0) (n := 0) (k1 := 0) (n1 := 0) dX11_layLine_101 lkX11_245 caX11_cell cvX11_cell rfl rfl (fun Q1 hq => tX11_cell a0 h (63 : Int32) m16 Q1 hq) ⟨by decide, by decide⟩ (Nat.le_of_ble_eq_true rfl) rfl hF (fun x20 m21 hF => ?_)
    show gV G mX11_layLine 4 Q 104 [some (sr (some a0)), some (si x1)] [] (0) (0) (jn a0 h m21)
    exact v_lle [some (sr (some a0)), none] ⟨rfl, trivial⟩ (hj14 m21 (okB_some hF))
  refine v_aload_n (pc := 104) (i := 0) dX11_layLine_104 rfl rfl ?_
  refine m_getA (pc := 105) (j := 9) dX11_layLine_105 flX11_35 rfl (by decide) ?_
  refine v_aload_n (pc := 108) (i := 0) dX11_layLine_108 rfl rfl ?_
  refine m_getI (pc := 109) (j := 20) dX11_layLine_109 flX11_128 rfl rfl ?_
  refine m_iald (pc := 112) (j := 9) dX11_layLine_112 hF (fun x22 hF => ?_)
  refine mg (X := fun q23 => gV G mX11_layLine 4 Q 145 [some (sr (some a0)), none] [] (0) (0) (jn a0 h q23)) hF (fun _ hj24 hF => ?_) (fun q23 hF => ?_)
  · refine v_if_le (pc := 113) 145 dX11_layLine_113 rfl (fun hc => ?_) (fun hc => ?_)
    · replace hF := (okB_if hF).1 hc
      exact v_lle [some (sr (some a0)), none] ⟨rfl, trivial⟩ (hj24 q13 (okB_some hF))
    replace hF := (okB_if hF).2 hc
    refine v_aload_n (pc := 116) (i := 0) dX11_layLine_116 rfl rfl ?_
    refine v_iconst (pc := 117) (v := (0 : Int32)) dX11_layLine_117 rfl ?_
    refine chM_V (pc := 118) gU (as := [si (0 : Int32)]) (st := []) (N := mX11_cell) (k := 0) (n := 0) (k1 := 0) (n1 := 0) dX11_layLine_118 lkX11_245 caX11_cell cvX11_cell rfl rfl (fun Q1 hq => tX11_cell a0 h (0 : Int32) q13 Q1 hq) ⟨by decide, by decide⟩ (Nat.le_of_ble_eq_true rfl) rfl hF (fun x25 m26 hF => ?_)
    show gV G mX11_layLine 4 Q 121 [some (sr (some a0)), none] [] (0) (0) (jn a0 h m26)
    refine v_aload_n (pc := 121) (i := 0) dX11_layLine_121 rfl rfl ?_
    refine v_aload_n (pc := 122) (i := 0) dX11_layLine_122 rfl rfl ?_
    refine m_getA (pc := 123) (j := 8) dX11_layLine_123 flX11_32 rfl (by decide) ?_
    refine v_bipush (pc := 126) (v := (12 : Int32)) dX11_layLine_126 rfl ?_
    refine v_aload_n (pc := 128) (i := 0) dX11_layLine_128 rfl rfl ?_
    refine m_getI (pc := 129) (j := 20) dX11_layLine_129 flX11_128 rfl rfl ?_
    refine v_imul (pc := 132) dX11_layLine_132 ?_
    refine v_aload_n (pc := 133) (i := 0) dX11_layLine_133 rfl rfl ?_
    refine m_getA (pc := 134) (j := 9) dX11_layLine_134 flX11_35 rfl (by decide) ?_
    refine v_aload_n (pc := 137) (i := 0) dX11_layLine_137 rfl rfl ?_
    refine m_getI (pc := 138) (j := 20) dX11_layLine_138 flX11_128 rfl rfl ?_
    refine m_iald (pc := 141) (j := 9) dX11_layLine_141 hF (fun x27 hF => ?_)
    refine chM_V (pc := 142) gU (as := [sr (some (a0 + mo 8)), si ((12 : Int32) * (m26 20 0)), si x27]) (st := []) (N := mX11_write) (k := 0) (n := 0) (k1 := 0) (n1 := 0) dX11_layLine_142 lkX11_264 caX11_write cvX11_write rfl rfl (fun Q1 hq => tX11_write a0 h 8 ((12 : Int32) * (m26 20 0)) x27 m26 Q1 hq) ⟨by decide, by decide⟩ (Nat.le_of_ble_eq_true rfl) rfl hF (fun x28 m29 hF => ?_)
    show gV G mX11_layLine 4 Q 145 [some (sr (some a0)), none] [] (0) (0) (jn a0 h m29)
    exact v_lle [some (sr (some a0)), none] ⟨rfl, trivial⟩ (hj24 m29 (okB_some hF))
  refine v_aload_n (pc := 145) (i := 0) dX11_layLine_145 rfl rfl ?_
  refine m_getI (pc := 146) (j := 22) dX11_layLine_146 flX11_267 rfl rfl ?_
  refine v_if_eq (pc := 149) 159 dX11_layLine_149 rfl (fun hc => ?_) (fun hc => ?_)
  · replace hF := (okB_if hF).1 hc
    exact v_ret (pc := 159) dX11_layLine_159 rfl (okr hF fun q => q)
  replace hF := (okB_if hF).2 hc
  refine v_aload_n (pc := 152) (i := 0) dX11_layLine_152 rfl rfl ?_
  refine v_sipush (pc := 153) (v := (192 : Int32)) dX11_layLine_153 rfl ?_
  refine chM_V (pc := 156) gU (as := [si (192 : Int32)]) (st := []) (N := mX11_cell) (k := 0) (n := 0) (k1 := 0) (n1 := 0) dX11_layLine_156 lkX11_245 caX11_cell cvX11_cell rfl rfl (fun Q1 hq => tX11_cell a0 h (192 : Int32) q23 Q1 hq) ⟨by decide, by decide⟩ (Nat.le_of_ble_eq_true rfl) rfl hF (fun x30 m31 hF => ?_)
  show gV G mX11_layLine 4 Q 159 [some (sr (some a0)), none] [] (0) (0) (jn a0 h m31)
  exact v_ret (pc := 159) dX11_layLine_159 rfl (okr hF fun q => q)
/-! BrailleDeskModel.fitOffset -/
theorem tX11_fitOffset {G : gG} (a0 : Nat) (h : hp)  (m : mm) (Q : hQ) (hF : okB (fX11_fitOffset m) (pM gU Q a0 h)) : gS G mX11_fitOffset 5 0 0 [sr (some a0)] (jn a0 h m) Q := by
  delta fX11_fitOffset at hF
  refine gS_at [some (sr (some a0))] pl_X11 rfl (Nat.le_of_ble_eq_true rfl) rfl ?_
  refine v_aload_n (pc := 0) (i := 0) dX11_fitOffset_0 rfl rfl ?_
  refine chM_V (pc := 1) gU (as := []) (st := []) (N := mX11_layLine) (k := 0) (n := 0) (k1 := 0) (n1 := 0) dX11_fitOffset_1 lkX11_271 caX11_layLine cvX11_layLine rfl rfl (fun Q1 hq => tX11_layLine a0 h m Q1 hq) ⟨by decide, by decide⟩ (Nat.le_of_ble_eq_true rfl) rfl hF (fun x1 m2 hF => ?_)
  show gV G mX11_fitOffset 5 Q 4 [some (sr (some a0))] [] (0) (0) (jn a0 h m2)
  refine v_aload_n (pc := 4) (i := 0) dX11_fitOffset_4 rfl rfl ?_
  refine m_getI (pc := 5) (j := 25) dX11_fitOffset_5 flX11_274 rfl rfl ?_
  refine v_if_le (pc := 8) 49 dX11_fitOffset_8 rfl (fun hc => ?_) (fun hc => ?_)
  · replace hF := (okB_if hF).1 hc
    exact v_ret (pc := 49) dX11_fitOffset_49 rfl (okr hF fun q => q)
  replace hF := (okB_if hF).2 hc
  refine v_aload_n (pc := 11) (i := 0) dX11_fitOffset_11 rfl rfl ?_
  refine m_getI (pc := 12) (j := 25) dX11_fitOffset_12 flX11_274 rfl rfl ?_
  refine v_aload_n (pc := 15) (i := 0) dX11_fitOffset_15 rfl rfl ?_
  refine m_getI (pc := 16) (j := 53) dX11_fitOffset_16 flX11_236 rfl rfl ?_
  refine v_icmp_lt (pc := 19) 49 dX11_fitOffset_19 rfl (fun hc => ?_) (fun hc => ?_)
  · replace hF := (okB_if hF).1 hc
    exact v_ret (pc := 49) dX11_fitOffset_49 rfl (okr hF fun q => q)
  replace hF := (okB_if hF).2 hc
  refine v_aload_n (pc := 22) (i := 0) dX11_fitOffset_22 rfl rfl ?_
  refine v_aload_n (pc := 23) (i := 0) dX11_fitOffset_23 rfl rfl ?_
  refine m_getI (pc := 24) (j := 53) dX11_fitOffset_24 flX11_236 rfl rfl ?_
  refine v_if_ne (pc := 27) 34 dX11_fitOffset_27 rfl (fun hc => ?_) (fun hc => ?_)
  · replace hF := (okB_if hF).2 hc
    refine v_aload_n (pc := 34) (i := 0) dX11_fitOffset_34 rfl rfl ?_
    refine m_getI (pc := 35) (j := 53) dX11_fitOffset_35 flX11_236 rfl rfl ?_
    refine v_iconst (pc := 38) (v := (1 : Int32)) dX11_fitOffset_38 rfl ?_
    refine v_isub (pc := 39) dX11_fitOffset_39 ?_
    refine v_bipush (pc := 40) (v := (10 : Int32)) dX11_fitOffset_40 rfl ?_
    refine s_idiv (pc := 42) dX11_fitOffset_42 hF (fun hF => ?_)
    refine v_bipush (pc := 43) (v := (10 : Int32)) dX11_fitOffset_43 rfl ?_
    refine v_imul (pc := 45) dX11_fitOffset_45 ?_
    refine m_putI (pc := 46) (j := 25) dX11_fitOffset_46 flX11_274 rfl rfl rfl hF (fun m3 hF => ?_)
    exact v_ret (pc := 49) dX11_fitOffset_49 rfl (okr hF fun q => q)
  replace hF := (okB_if hF).1 hc
  refine v_iconst (pc := 30) (v := (0 : Int32)) dX11_fitOffset_30 rfl ?_
  refine v_goto (pc := 31) 46 dX11_fitOffset_31 rfl ?_
  refine m_putI (pc := 46) (j := 25) dX11_fitOffset_46 flX11_274 rfl rfl rfl hF (fun m4 hF => ?_)
  exact v_ret (pc := 49) dX11_fitOffset_49 rfl (okr hF fun q => q)
/-! BrailleDeskModel.isCharacter -/
theorem tX11_isCharacter {G : gG} (a0 : Int32) (h : hp) (Q : hQ) (hF : okB (fX11_isCharacter a0) (pP gI Q h)) : gS G mX11_isCharacter 1 0 0 [si a0] h Q := by
  delta fX11_isCharacter at hF
  refine gS_at [some (si a0)] pl_X11 rfl (Nat.le_of_ble_eq_true rfl) rfl ?_
  refine v_iload_n (pc := 0) (i := 0) dX11_isCharacter_0 rfl rfl ?_
  refine v_bipush (pc := 1) (v := (32 : Int32)) dX11_isCharacter_1 rfl ?_
  refine v_bipush (pc := 3) (v := (126 : Int32)) dX11_isCharacter_3 rfl ?_
  refine cp_S (pc := 5) gI (as := [si a0, si (32 : Int32), si (126 : Int32)]) (st := []) (N := mX11_in) (k := 0) (n := 0) (k1 := 0) (n1 := 0) dX11_isCharacter_5 lkX11_114 caX11_in csX11_in rfl (fun Q1 hq => tX11_in a0 (32 : Int32) (126 : Int32) h Q1 hq) ⟨by decide, by decide⟩ (Nat.le_of_ble_eq_true rfl) rfl hF (fun x1 hF => ?_)
  show gV G mX11_isCharacter 1 Q 8 [some (si a0)] [si x1] (0) (0) h
  refine v_if_ne (pc := 8) 24 dX11_isCharacter_8 rfl (fun hc => ?_) (fun hc => ?_)
  · replace hF := (okB_if hF).2 hc
    refine v_iconst (pc := 24) (v := (1 : Int32)) dX11_isCharacter_24 rfl ?_
    refine v_goto (pc := 25) 29 dX11_isCharacter_25 rfl ?_
    exact v_iret (pc := 29) dX11_isCharacter_29 rfl rfl (okr hF fun q => q)
  replace hF := (okB_if hF).1 hc
  refine v_iload_n (pc := 11) (i := 0) dX11_isCharacter_11 rfl rfl ?_
  refine v_ldcw (pc := 12) (v := (119040 : Int32)) dX11_isCharacter_12 ctX11_277 ?_
  refine v_ldcw (pc := 15) (v := (119295 : Int32)) dX11_isCharacter_15 ctX11_278 ?_
  refine cp_S (pc := 18) gI (as := [si a0, si (119040 : Int32), si (119295 : Int32)]) (st := []) (N := mX11_in) (k := 0) (n := 0) (k1 := 0) (n1 := 0) dX11_isCharacter_18 lkX11_114 caX11_in csX11_in rfl (fun Q1 hq => tX11_in a0 (119040 : Int32) (119295 : Int32) h Q1 hq) ⟨by decide, by decide⟩ (Nat.le_of_ble_eq_true rfl) rfl hF (fun x2 hF => ?_)
  show gV G mX11_isCharacter 1 Q 21 [some (si a0)] [si x2] (0) (0) h
  refine v_if_eq (pc := 21) 28 dX11_isCharacter_21 rfl (fun hc => ?_) (fun hc => ?_)
  · replace hF := (okB_if hF).1 hc
    refine v_iconst (pc := 28) (v := (0 : Int32)) dX11_isCharacter_28 rfl ?_
    exact v_iret (pc := 29) dX11_isCharacter_29 rfl rfl (okr hF fun q => q)
  replace hF := (okB_if hF).2 hc
  refine v_iconst (pc := 24) (v := (1 : Int32)) dX11_isCharacter_24 rfl ?_
  refine v_goto (pc := 25) 29 dX11_isCharacter_25 rfl ?_
  exact v_iret (pc := 29) dX11_isCharacter_29 rfl rfl (okr hF fun q => q)
/-! BrailleDeskModel.draft -/
theorem tX11_draft {G : gG} (a0 : Nat) (h : hp) (a1 : Int32) (m : mm) (Q : hQ) (hF : okB (fX11_draft a1 m) (pM gI Q a0 h)) : gS G mX11_draft 2 0 0 [sr (some a0), si a1] (jn a0 h m) Q := by
  delta fX11_draft at hF
  refine gS_at [some (sr (some a0)), some (si a1)] pl_X11 rfl (Nat.le_of_ble_eq_true rfl) rfl ?_
  refine v_aload_n (pc := 0) (i := 0) dX11_draft_0 rfl rfl ?_
  refine v_iload_n (pc := 1) (i := 1) dX11_draft_1 rfl rfl ?_
  refine cp_S (pc := 2) gI (as := [si a1]) (st := [sr (some a0)]) (N := mX11_isCharacter) (k := 0) (n := 0) (k1 := 0) (n1 := 0) dX11_draft_2 lkX11_279 caX11_isCharacter csX11_isCharacter rfl (fun Q1 hq => tX11_isCharacter a1 (jn a0 h m) Q1 hq) ⟨by decide, by decide⟩ (Nat.le_of_ble_eq_true rfl) rfl hF (fun x1 hF => ?_)
  show gV G mX11_draft 2 Q 5 [some (sr (some a0)), some (si a1)] [si x1, sr (some a0)] (0) (0) (jn a0 h m)
  refine mg (X := fun q2 => gV G mX11_draft 2 Q 26 [some (sr (some a0)), some (si a1)] [si q2, sr (some a0)] (0) (0) (jn a0 h m)) hF (fun _ hj3 hF => ?_) (fun q2 hF => ?_)
  · refine v_if_ne (pc := 5) 12 dX11_draft_5 rfl (fun hc => ?_) (fun hc => ?_)
    · replace hF := (okB_if hF).2 hc
      refine v_aload_n (pc := 12) (i := 0) dX11_draft_12 rfl rfl ?_
      refine m_getI (pc := 13) (j := 19) dX11_draft_13 flX11_282 rfl rfl ?_
      refine v_bipush (pc := 16) (v := (12 : Int32)) dX11_draft_16 rfl ?_
      refine v_icmp_ne (pc := 18) 25 dX11_draft_18 rfl (fun hc => ?_) (fun hc => ?_)
      · replace hF := (okB_if hF).2 hc
        refine v_iconst (pc := 25) (v := (0 : Int32)) dX11_draft_25 rfl ?_
        exact v_lle [some (sr (some a0)), some (si a1)] ⟨rfl, rfl, trivial⟩ (hj3 (0 : Int32) (okB_some hF))
      replace hF := (okB_if hF).1 hc
      refine v_iconst (pc := 21) (v := (2 : Int32)) dX11_draft_21 rfl ?_
      refine v_goto (pc := 22) 26 dX11_draft_22 rfl ?_
      exact v_lle [some (sr (some a0)), some (si a1)] ⟨rfl, rfl, trivial⟩ (hj3 (2 : Int32) (okB_some hF))
    replace hF := (okB_if hF).1 hc
    refine v_iconst (pc := 8) (v := (1 : Int32)) dX11_draft_8 rfl ?_
    refine v_goto (pc := 9) 26 dX11_draft_9 rfl ?_
    exact v_lle [some (sr (some a0)), some (si a1)] ⟨rfl, rfl, trivial⟩ (hj3 (1 : Int32) (okB_some hF))
  refine m_putI (pc := 26) (j := 48) dX11_draft_26 flX11_111 rfl rfl rfl hF (fun m4 hF => ?_)
  refine v_aload_n (pc := 29) (i := 0) dX11_draft_29 rfl rfl ?_
  refine m_getI (pc := 30) (j := 48) dX11_draft_30 flX11_111 rfl rfl ?_
  refine v_if_le (pc := 33) 38 dX11_draft_33 rfl (fun hc => ?_) (fun hc => ?_)
  · replace hF := (okB_if hF).1 hc
    refine v_aload_n (pc := 38) (i := 0) dX11_draft_38 rfl rfl ?_
    refine m_getA (pc := 39) (j := 18) dX11_draft_39 flX11_62 rfl (by decide) ?_
    refine v_aload_n (pc := 42) (i := 0) dX11_draft_42 rfl rfl ?_
    refine m_getI (pc := 43) (j := 19) dX11_draft_43 flX11_282 rfl rfl ?_
    refine v_iload_n (pc := 46) (i := 1) dX11_draft_46 rfl rfl ?_
    refine m_iast (pc := 47) (j := 18) dX11_draft_47 hF (fun m5 hF => ?_)
    refine v_aload_n (pc := 48) (i := 0) dX11_draft_48 rfl rfl ?_
    refine v_dup (pc := 49) dX11_draft_49 rfl ?_
    refine m_getI (pc := 50) (j := 19) dX11_draft_50 flX11_282 rfl rfl ?_
    refine v_iconst (pc := 53) (v := (1 : Int32)) dX11_draft_53 rfl ?_
    refine v_iadd (pc := 54) dX11_draft_54 ?_
    refine m_putI (pc := 55) (j := 19) dX11_draft_55 flX11_282 rfl rfl rfl hF (fun m6 hF => ?_)
    refine v_aload_n (pc := 58) (i := 0) dX11_draft_58 rfl rfl ?_
    refine m_getI (pc := 59) (j := 19) dX11_draft_59 flX11_282 rfl rfl ?_
    exact v_iret (pc := 62) dX11_draft_62 rfl rfl (okr hF fun q => q)
  replace hF := (okB_if hF).2 hc
  refine v_iconst (pc := 36) (v := (0 : Int32)) dX11_draft_36 rfl ?_
  exact v_iret (pc := 37) dX11_draft_37 rfl rfl (okr hF fun q => q)
