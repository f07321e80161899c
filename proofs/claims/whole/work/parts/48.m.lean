/-! ===== methods: their functions and rows ===== -/
theorem dX11_readingAt_0 : decode cX11_readingAt 0 = .ok (.aload_n 0, 1) := by decide +kernel
theorem dX11_readingAt_1 : decode cX11_readingAt 1 = .ok (.invokevirtual 125, 3) := by decide +kernel
theorem dX11_readingAt_4 : decode cX11_readingAt 4 = .ok (.aload_n 0, 1) := by decide +kernel
theorem dX11_readingAt_5 : decode cX11_readingAt 5 = .ok (.iload_n 1, 1) := by decide +kernel
theorem dX11_readingAt_6 : decode cX11_readingAt 6 = .ok (.iconst 0, 1) := by decide +kernel
theorem dX11_readingAt_7 : decode cX11_readingAt 7 = .ok (.aload_n 0, 1) := by decide +kernel
theorem dX11_readingAt_8 : decode cX11_readingAt 8 = .ok (.getfield 122, 3) := by decide +kernel
theorem dX11_readingAt_11 : decode cX11_readingAt 11 = .ok (.iconst 1, 1) := by decide +kernel
theorem dX11_readingAt_12 : decode cX11_readingAt 12 = .ok (.isub, 1) := by decide +kernel
theorem dX11_readingAt_13 : decode cX11_readingAt 13 = .ok (.invokestatic 114, 3) := by decide +kernel
theorem dX11_readingAt_16 : decode cX11_readingAt 16 = .ok (.ifCond .eq 7, 3) := by decide +kernel
theorem dX11_readingAt_19 : decode cX11_readingAt 19 = .ok (.iconst 0, 1) := by decide +kernel
theorem dX11_readingAt_20 : decode cX11_readingAt 20 = .ok (.goto 4, 3) := by decide +kernel
theorem dX11_readingAt_23 : decode cX11_readingAt 23 = .ok (.iconst 1, 1) := by decide +kernel
theorem dX11_readingAt_24 : decode cX11_readingAt 24 = .ok (.putfield 111, 3) := by decide +kernel
theorem dX11_readingAt_27 : decode cX11_readingAt 27 = .ok (.aload_n 0, 1) := by decide +kernel
theorem dX11_readingAt_28 : decode cX11_readingAt 28 = .ok (.getfield 111, 3) := by decide +kernel
theorem dX11_readingAt_31 : decode cX11_readingAt 31 = .ok (.ifCond .ne 12, 3) := by decide +kernel
theorem dX11_readingAt_34 : decode cX11_readingAt 34 = .ok (.aload_n 0, 1) := by decide +kernel
theorem dX11_readingAt_35 : decode cX11_readingAt 35 = .ok (.getfield 92, 3) := by decide +kernel
theorem dX11_readingAt_38 : decode cX11_readingAt 38 = .ok (.iload_n 1, 1) := by decide +kernel
theorem dX11_readingAt_39 : decode cX11_readingAt 39 = .ok (.iaload, 1) := by decide +kernel
theorem dX11_readingAt_40 : decode cX11_readingAt 40 = .ok (.goto 4, 3) := by decide +kernel
theorem dX11_readingAt_43 : decode cX11_readingAt 43 = .ok (.iconst 0, 1) := by decide +kernel
theorem dX11_readingAt_44 : decode cX11_readingAt 44 = .ok (.ireturn, 1) := by decide +kernel
theorem dX11_partHeads_0 : decode cX11_partHeads 0 = .ok (.aload_n 0, 1) := by decide +kernel
theorem dX11_partHeads_1 : decode cX11_partHeads 1 = .ok (.getfield 17, 3) := by decide +kernel
theorem dX11_partHeads_4 : decode cX11_partHeads 4 = .ok (.iload_n 2, 1) := by decide +kernel
theorem dX11_partHeads_5 : decode cX11_partHeads 5 = .ok (.iaload, 1) := by decide +kernel
theorem dX11_partHeads_6 : decode cX11_partHeads 6 = .ok (.istore_n 3, 1) := by decide +kernel
theorem dX11_partHeads_7 : decode cX11_partHeads 7 = .ok (.aload_n 0, 1) := by decide +kernel
theorem dX11_partHeads_8 : decode cX11_partHeads 8 = .ok (.getfield 17, 3) := by decide +kernel
theorem dX11_partHeads_11 : decode cX11_partHeads 11 = .ok (.iload_n 1, 1) := by decide +kernel
theorem dX11_partHeads_12 : decode cX11_partHeads 12 = .ok (.iaload, 1) := by decide +kernel
theorem dX11_partHeads_13 : decode cX11_partHeads 13 = .ok (.istore 4, 2) := by decide +kernel
theorem dX11_partHeads_15 : decode cX11_partHeads 15 = .ok (.iload_n 1, 1) := by decide +kernel
theorem dX11_partHeads_16 : decode cX11_partHeads 16 = .ok (.iload_n 2, 1) := by decide +kernel
theorem dX11_partHeads_17 : decode cX11_partHeads 17 = .ok (.if_icmp .eq 57, 3) := by decide +kernel
theorem dX11_partHeads_20 : decode cX11_partHeads 20 = .ok (.iload_n 3, 1) := by decide +kernel
theorem dX11_partHeads_21 : decode cX11_partHeads 21 = .ok (.iconst (-1), 1) := by decide +kernel
theorem dX11_partHeads_22 : decode cX11_partHeads 22 = .ok (.if_icmp .eq 52, 3) := by decide +kernel
theorem dX11_partHeads_25 : decode cX11_partHeads 25 = .ok (.iload 4, 2) := by decide +kernel
theorem dX11_partHeads_27 : decode cX11_partHeads 27 = .ok (.iconst (-1), 1) := by decide +kernel
theorem dX11_partHeads_28 : decode cX11_partHeads 28 = .ok (.if_icmp .eq 46, 3) := by decide +kernel
theorem dX11_partHeads_31 : decode cX11_partHeads 31 = .ok (.aload_n 0, 1) := by decide +kernel
theorem dX11_partHeads_32 : decode cX11_partHeads 32 = .ok (.getfield 13, 3) := by decide +kernel
theorem dX11_partHeads_35 : decode cX11_partHeads 35 = .ok (.iload_n 3, 1) := by decide +kernel
theorem dX11_partHeads_36 : decode cX11_partHeads 36 = .ok (.iaload, 1) := by decide +kernel
theorem dX11_partHeads_37 : decode cX11_partHeads 37 = .ok (.bipush 6, 2) := by decide +kernel
theorem dX11_partHeads_39 : decode cX11_partHeads 39 = .ok (.if_icmp .ne 35, 3) := by decide +kernel
theorem dX11_partHeads_42 : decode cX11_partHeads 42 = .ok (.aload_n 0, 1) := by decide +kernel
theorem dX11_partHeads_43 : decode cX11_partHeads 43 = .ok (.getfield 13, 3) := by decide +kernel
theorem dX11_partHeads_46 : decode cX11_partHeads 46 = .ok (.iload 4, 2) := by decide +kernel
theorem dX11_partHeads_48 : decode cX11_partHeads 48 = .ok (.iaload, 1) := by decide +kernel
theorem dX11_partHeads_49 : decode cX11_partHeads 49 = .ok (.bipush 6, 2) := by decide +kernel
theorem dX11_partHeads_51 : decode cX11_partHeads 51 = .ok (.if_icmp .ne 23, 3) := by decide +kernel
theorem dX11_partHeads_54 : decode cX11_partHeads 54 = .ok (.aload_n 0, 1) := by decide +kernel
theorem dX11_partHeads_55 : decode cX11_partHeads 55 = .ok (.getfield 17, 3) := by decide +kernel
theorem dX11_partHeads_58 : decode cX11_partHeads 58 = .ok (.iload_n 3, 1) := by decide +kernel
theorem dX11_partHeads_59 : decode cX11_partHeads 59 = .ok (.iaload, 1) := by decide +kernel
theorem dX11_partHeads_60 : decode cX11_partHeads 60 = .ok (.aload_n 0, 1) := by decide +kernel
theorem dX11_partHeads_61 : decode cX11_partHeads 61 = .ok (.getfield 17, 3) := by decide +kernel
theorem dX11_partHeads_64 : decode cX11_partHeads 64 = .ok (.iload 4, 2) := by decide +kernel
theorem dX11_partHeads_66 : decode cX11_partHeads 66 = .ok (.iaload, 1) := by decide +kernel
theorem dX11_partHeads_67 : decode cX11_partHeads 67 = .ok (.if_icmp .ne 7, 3) := by decide +kernel
theorem dX11_partHeads_70 : decode cX11_partHeads 70 = .ok (.iconst 1, 1) := by decide +kernel
theorem dX11_partHeads_71 : decode cX11_partHeads 71 = .ok (.goto 4, 3) := by decide +kernel
theorem dX11_partHeads_74 : decode cX11_partHeads 74 = .ok (.iconst 0, 1) := by decide +kernel
theorem dX11_partHeads_75 : decode cX11_partHeads 75 = .ok (.istore 5, 2) := by decide +kernel
theorem dX11_partHeads_77 : decode cX11_partHeads 77 = .ok (.iload 5, 2) := by decide +kernel
theorem dX11_partHeads_79 : decode cX11_partHeads 79 = .ok (.ifCond .eq 11, 3) := by decide +kernel
theorem dX11_partHeads_82 : decode cX11_partHeads 82 = .ok (.aload_n 0, 1) := by decide +kernel
theorem dX11_partHeads_83 : decode cX11_partHeads 83 = .ok (.iload_n 2, 1) := by decide +kernel
theorem dX11_partHeads_84 : decode cX11_partHeads 84 = .ok (.invokevirtual 164, 3) := by decide +kernel
theorem dX11_partHeads_87 : decode cX11_partHeads 87 = .ok (.ifCond .ne 4, 3) := by decide +kernel
theorem dX11_partHeads_90 : decode cX11_partHeads 90 = .ok (.return_, 1) := by decide +kernel
theorem dX11_partHeads_91 : decode cX11_partHeads 91 = .ok (.iload_n 3, 1) := by decide +kernel
theorem dX11_partHeads_92 : decode cX11_partHeads 92 = .ok (.iload 4, 2) := by decide +kernel
theorem dX11_partHeads_94 : decode cX11_partHeads 94 = .ok (.if_icmp .eq 29, 3) := by decide +kernel
theorem dX11_partHeads_97 : decode cX11_partHeads 97 = .ok (.aload_n 0, 1) := by decide +kernel
theorem dX11_partHeads_98 : decode cX11_partHeads 98 = .ok (.getfield 20, 3) := by decide +kernel
theorem dX11_partHeads_101 : decode cX11_partHeads 101 = .ok (.bipush 10, 2) := by decide +kernel
theorem dX11_partHeads_103 : decode cX11_partHeads 103 = .ok (.iload_n 3, 1) := by decide +kernel
theorem dX11_partHeads_104 : decode cX11_partHeads 104 = .ok (.imul, 1) := by decide +kernel
theorem dX11_partHeads_105 : decode cX11_partHeads 105 = .ok (.iaload, 1) := by decide +kernel
theorem dX11_partHeads_106 : decode cX11_partHeads 106 = .ok (.iload_n 2, 1) := by decide +kernel
theorem dX11_partHeads_107 : decode cX11_partHeads 107 = .ok (.if_icmp .eq 16, 3) := by decide +kernel
theorem dX11_partHeads_110 : decode cX11_partHeads 110 = .ok (.aload_n 0, 1) := by decide +kernel
theorem dX11_partHeads_111 : decode cX11_partHeads 111 = .ok (.aload_n 0, 1) := by decide +kernel
theorem dX11_partHeads_112 : decode cX11_partHeads 112 = .ok (.getfield 20, 3) := by decide +kernel
theorem dX11_partHeads_115 : decode cX11_partHeads 115 = .ok (.bipush 10, 2) := by decide +kernel
theorem dX11_partHeads_117 : decode cX11_partHeads 117 = .ok (.iload_n 3, 1) := by decide +kernel
theorem dX11_partHeads_118 : decode cX11_partHeads 118 = .ok (.imul, 1) := by decide +kernel
theorem dX11_partHeads_119 : decode cX11_partHeads 119 = .ok (.iaload, 1) := by decide +kernel
theorem dX11_partHeads_120 : decode cX11_partHeads 120 = .ok (.invokevirtual 168, 3) := by decide +kernel
theorem dX11_partHeads_123 : decode cX11_partHeads 123 = .ok (.aload_n 0, 1) := by decide +kernel
theorem dX11_partHeads_124 : decode cX11_partHeads 124 = .ok (.getfield 20, 3) := by decide +kernel
theorem dX11_partHeads_127 : decode cX11_partHeads 127 = .ok (.bipush 10, 2) := by decide +kernel
theorem dX11_partHeads_129 : decode cX11_partHeads 129 = .ok (.aload_n 0, 1) := by decide +kernel
theorem dX11_partHeads_130 : decode cX11_partHeads 130 = .ok (.getfield 17, 3) := by decide +kernel
theorem dX11_partHeads_133 : decode cX11_partHeads 133 = .ok (.iload_n 3, 1) := by decide +kernel
theorem dX11_partHeads_134 : decode cX11_partHeads 134 = .ok (.iaload, 1) := by decide +kernel
theorem dX11_partHeads_135 : decode cX11_partHeads 135 = .ok (.imul, 1) := by decide +kernel
theorem dX11_partHeads_136 : decode cX11_partHeads 136 = .ok (.iaload, 1) := by decide +kernel
theorem dX11_partHeads_137 : decode cX11_partHeads 137 = .ok (.istore 6, 2) := by decide +kernel
theorem dX11_partHeads_139 : decode cX11_partHeads 139 = .ok (.aload_n 0, 1) := by decide +kernel
theorem dX11_partHeads_140 : decode cX11_partHeads 140 = .ok (.iload_n 2, 1) := by decide +kernel
theorem dX11_partHeads_141 : decode cX11_partHeads 141 = .ok (.invokevirtual 302, 3) := by decide +kernel
theorem dX11_partHeads_144 : decode cX11_partHeads 144 = .ok (.istore 7, 2) := by decide +kernel
theorem dX11_partHeads_146 : decode cX11_partHeads 146 = .ok (.iload 7, 2) := by decide +kernel
theorem dX11_partHeads_148 : decode cX11_partHeads 148 = .ok (.aload_n 0, 1) := by decide +kernel
theorem dX11_partHeads_149 : decode cX11_partHeads 149 = .ok (.iload_n 1, 1) := by decide +kernel
theorem dX11_partHeads_150 : decode cX11_partHeads 150 = .ok (.invokevirtual 302, 3) := by decide +kernel
theorem dX11_partHeads_153 : decode cX11_partHeads 153 = .ok (.if_icmp .eq 49, 3) := by decide +kernel
theorem dX11_partHeads_156 : decode cX11_partHeads 156 = .ok (.iload 7, 2) := by decide +kernel
theorem dX11_partHeads_158 : decode cX11_partHeads 158 = .ok (.aload_n 0, 1) := by decide +kernel
theorem dX11_partHeads_159 : decode cX11_partHeads 159 = .ok (.getfield 23, 3) := by decide +kernel
theorem dX11_partHeads_162 : decode cX11_partHeads 162 = .ok (.iload 6, 2) := by decide +kernel
theorem dX11_partHeads_164 : decode cX11_partHeads 164 = .ok (.iaload, 1) := by decide +kernel
theorem dX11_partHeads_165 : decode cX11_partHeads 165 = .ok (.if_icmp .ge 37, 3) := by decide +kernel
theorem dX11_partHeads_168 : decode cX11_partHeads 168 = .ok (.aload_n 0, 1) := by decide +kernel
theorem dX11_partHeads_169 : decode cX11_partHeads 169 = .ok (.getfield 20, 3) := by decide +kernel
theorem dX11_partHeads_172 : decode cX11_partHeads 172 = .ok (.bipush 10, 2) := by decide +kernel
theorem dX11_partHeads_174 : decode cX11_partHeads 174 = .ok (.iload 6, 2) := by decide +kernel
theorem dX11_partHeads_176 : decode cX11_partHeads 176 = .ok (.imul, 1) := by decide +kernel
theorem dX11_partHeads_177 : decode cX11_partHeads 177 = .ok (.iload 7, 2) := by decide +kernel
theorem dX11_partHeads_179 : decode cX11_partHeads 179 = .ok (.iadd, 1) := by decide +kernel
theorem dX11_partHeads_180 : decode cX11_partHeads 180 = .ok (.iaload, 1) := by decide +kernel
theorem dX11_partHeads_181 : decode cX11_partHeads 181 = .ok (.iload_n 2, 1) := by decide +kernel
theorem dX11_partHeads_182 : decode cX11_partHeads 182 = .ok (.if_icmp .eq 20, 3) := by decide +kernel
theorem dX11_partHeads_185 : decode cX11_partHeads 185 = .ok (.aload_n 0, 1) := by decide +kernel
theorem dX11_partHeads_186 : decode cX11_partHeads 186 = .ok (.aload_n 0, 1) := by decide +kernel
theorem dX11_partHeads_187 : decode cX11_partHeads 187 = .ok (.getfield 20, 3) := by decide +kernel
theorem dX11_partHeads_190 : decode cX11_partHeads 190 = .ok (.bipush 10, 2) := by decide +kernel
theorem dX11_partHeads_192 : decode cX11_partHeads 192 = .ok (.iload 6, 2) := by decide +kernel
theorem dX11_partHeads_194 : decode cX11_partHeads 194 = .ok (.imul, 1) := by decide +kernel
theorem dX11_partHeads_195 : decode cX11_partHeads 195 = .ok (.iload 7, 2) := by decide +kernel
theorem dX11_partHeads_197 : decode cX11_partHeads 197 = .ok (.iadd, 1) := by decide +kernel
theorem dX11_partHeads_198 : decode cX11_partHeads 198 = .ok (.iaload, 1) := by decide +kernel
theorem dX11_partHeads_199 : decode cX11_partHeads 199 = .ok (.invokevirtual 168, 3) := by decide +kernel
theorem dX11_partHeads_202 : decode cX11_partHeads 202 = .ok (.return_, 1) := by decide +kernel
theorem dX11_go_0 : decode cX11_go 0 = .ok (.aload_n 0, 1) := by decide +kernel
theorem dX11_go_1 : decode cX11_go 1 = .ok (.iconst 0, 1) := by decide +kernel
theorem dX11_go_2 : decode cX11_go 2 = .ok (.putfield 267, 3) := by decide +kernel
theorem dX11_go_5 : decode cX11_go 5 = .ok (.aload_n 0, 1) := by decide +kernel
theorem dX11_go_6 : decode cX11_go 6 = .ok (.iconst 0, 1) := by decide +kernel
theorem dX11_go_7 : decode cX11_go 7 = .ok (.putfield 143, 3) := by decide +kernel
theorem dX11_go_10 : decode cX11_go 10 = .ok (.aload_n 0, 1) := by decide +kernel
theorem dX11_go_11 : decode cX11_go 11 = .ok (.aload_n 0, 1) := by decide +kernel
theorem dX11_go_12 : decode cX11_go 12 = .ok (.getfield 128, 3) := by decide +kernel
theorem dX11_go_15 : decode cX11_go 15 = .ok (.iload_n 1, 1) := by decide +kernel
theorem dX11_go_16 : decode cX11_go 16 = .ok (.invokevirtual 318, 3) := by decide +kernel
theorem dX11_go_19 : decode cX11_go 19 = .ok (.aload_n 0, 1) := by decide +kernel
theorem dX11_go_20 : decode cX11_go 20 = .ok (.iload_n 1, 1) := by decide +kernel
theorem dX11_go_21 : decode cX11_go 21 = .ok (.aload_n 0, 1) := by decide +kernel
theorem dX11_go_22 : decode cX11_go 22 = .ok (.getfield 128, 3) := by decide +kernel
theorem dX11_go_25 : decode cX11_go 25 = .ok (.if_icmp .ne 10, 3) := by decide +kernel
theorem dX11_go_28 : decode cX11_go 28 = .ok (.aload_n 0, 1) := by decide +kernel
theorem dX11_go_29 : decode cX11_go 29 = .ok (.getfield 274, 3) := by decide +kernel
theorem dX11_go_32 : decode cX11_go 32 = .ok (.goto 4, 3) := by decide +kernel
theorem dX11_go_35 : decode cX11_go 35 = .ok (.iconst 0, 1) := by decide +kernel
theorem dX11_go_36 : decode cX11_go 36 = .ok (.putfield 274, 3) := by decide +kernel
theorem dX11_go_39 : decode cX11_go 39 = .ok (.aload_n 0, 1) := by decide +kernel
theorem dX11_go_40 : decode cX11_go 40 = .ok (.iload_n 1, 1) := by decide +kernel
theorem dX11_go_41 : decode cX11_go 41 = .ok (.putfield 128, 3) := by decide +kernel
theorem dX11_go_44 : decode cX11_go 44 = .ok (.aload_n 0, 1) := by decide +kernel
theorem dX11_go_45 : decode cX11_go 45 = .ok (.iload_n 1, 1) := by decide +kernel
theorem dX11_go_46 : decode cX11_go 46 = .ok (.invokevirtual 227, 3) := by decide +kernel
theorem dX11_go_49 : decode cX11_go 49 = .ok (.aload_n 0, 1) := by decide +kernel
theorem dX11_go_50 : decode cX11_go 50 = .ok (.invokevirtual 203, 3) := by decide +kernel
theorem dX11_go_53 : decode cX11_go 53 = .ok (.return_, 1) := by decide +kernel
theorem dX11_goOr_0 : decode cX11_goOr 0 = .ok (.iload_n 1, 1) := by decide +kernel
theorem dX11_goOr_1 : decode cX11_goOr 1 = .ok (.iconst (-1), 1) := by decide +kernel
theorem dX11_goOr_2 : decode cX11_goOr 2 = .ok (.if_icmp .ne 11, 3) := by decide +kernel
theorem dX11_goOr_5 : decode cX11_goOr 5 = .ok (.aload_n 0, 1) := by decide +kernel
theorem dX11_goOr_6 : decode cX11_goOr 6 = .ok (.lload_n 2, 1) := by decide +kernel
theorem dX11_goOr_7 : decode cX11_goOr 7 = .ok (.invokevirtual 322, 3) := by decide +kernel
theorem dX11_goOr_10 : decode cX11_goOr 10 = .ok (.goto 8, 3) := by decide +kernel
theorem dX11_goOr_13 : decode cX11_goOr 13 = .ok (.aload_n 0, 1) := by decide +kernel
theorem dX11_goOr_14 : decode cX11_goOr 14 = .ok (.iload_n 1, 1) := by decide +kernel
theorem dX11_goOr_15 : decode cX11_goOr 15 = .ok (.invokevirtual 325, 3) := by decide +kernel
theorem dX11_goOr_18 : decode cX11_goOr 18 = .ok (.return_, 1) := by decide +kernel
theorem dX11_none_0 : decode cX11_none 0 = .ok (.iconst 0, 1) := by decide +kernel
theorem dX11_none_1 : decode cX11_none 1 = .ok (.iconst 0, 1) := by decide +kernel
theorem dX11_none_2 : decode cX11_none 2 = .ok (.iconst 0, 1) := by decide +kernel
theorem dX11_none_3 : decode cX11_none 3 = .ok (.bipush 110, 2) := by decide +kernel
theorem dX11_none_5 : decode cX11_none 5 = .ok (.bipush 111, 2) := by decide +kernel
theorem dX11_none_7 : decode cX11_none 7 = .ok (.bipush 110, 2) := by decide +kernel
theorem dX11_none_9 : decode cX11_none 9 = .ok (.bipush 101, 2) := by decide +kernel
theorem dX11_none_11 : decode cX11_none 11 = .ok (.invokestatic 133, 3) := by decide +kernel
theorem dX11_none_14 : decode cX11_none 14 = .ok (.lreturn, 1) := by decide +kernel
theorem dX11_end_0 : decode cX11_end 0 = .ok (.iconst 0, 1) := by decide +kernel
theorem dX11_end_1 : decode cX11_end 1 = .ok (.iconst 0, 1) := by decide +kernel
theorem dX11_end_2 : decode cX11_end 2 = .ok (.iconst 0, 1) := by decide +kernel
theorem dX11_end_3 : decode cX11_end 3 = .ok (.iconst 0, 1) := by decide +kernel
theorem dX11_end_4 : decode cX11_end 4 = .ok (.bipush 101, 2) := by decide +kernel
theorem dX11_end_6 : decode cX11_end 6 = .ok (.bipush 110, 2) := by decide +kernel
theorem dX11_end_8 : decode cX11_end 8 = .ok (.bipush 100, 2) := by decide +kernel
theorem dX11_end_10 : decode cX11_end 10 = .ok (.invokestatic 133, 3) := by decide +kernel
theorem dX11_end_13 : decode cX11_end 13 = .ok (.lreturn, 1) := by decide +kernel
theorem dX11_step_0 : decode cX11_step 0 = .ok (.aload_n 0, 1) := by decide +kernel
theorem dX11_step_1 : decode cX11_step 1 = .ok (.invokevirtual 328, 3) := by decide +kernel
theorem dX11_step_4 : decode cX11_step 4 = .ok (.iload_n 1, 1) := by decide +kernel
theorem dX11_step_5 : decode cX11_step 5 = .ok (.iadd, 1) := by decide +kernel
theorem dX11_step_6 : decode cX11_step 6 = .ok (.istore_n 2, 1) := by decide +kernel
theorem dX11_step_7 : decode cX11_step 7 = .ok (.aload_n 0, 1) := by decide +kernel
theorem dX11_step_8 : decode cX11_step 8 = .ok (.iload_n 2, 1) := by decide +kernel
theorem dX11_step_9 : decode cX11_step 9 = .ok (.iconst 0, 1) := by decide +kernel
theorem dX11_step_10 : decode cX11_step 10 = .ok (.aload_n 0, 1) := by decide +kernel
theorem dX11_step_11 : decode cX11_step 11 = .ok (.getfield 122, 3) := by decide +kernel
theorem dX11_step_14 : decode cX11_step 14 = .ok (.iconst 1, 1) := by decide +kernel
theorem dX11_step_15 : decode cX11_step 15 = .ok (.isub, 1) := by decide +kernel
theorem dX11_step_16 : decode cX11_step 16 = .ok (.invokestatic 114, 3) := by decide +kernel
theorem dX11_step_19 : decode cX11_step 19 = .ok (.ifCond .eq 12, 3) := by decide +kernel
theorem dX11_step_22 : decode cX11_step 22 = .ok (.aload_n 0, 1) := by decide +kernel
theorem dX11_step_23 : decode cX11_step 23 = .ok (.getfield 92, 3) := by decide +kernel
theorem dX11_step_26 : decode cX11_step 26 = .ok (.iload_n 2, 1) := by decide +kernel
theorem dX11_step_27 : decode cX11_step 27 = .ok (.iaload, 1) := by decide +kernel
theorem dX11_step_28 : decode cX11_step 28 = .ok (.goto 4, 3) := by decide +kernel
theorem dX11_step_31 : decode cX11_step 31 = .ok (.iconst (-1), 1) := by decide +kernel
theorem dX11_step_32 : decode cX11_step 32 = .ok (.invokestatic 332, 3) := by decide +kernel
theorem dX11_step_35 : decode cX11_step 35 = .ok (.invokevirtual 336, 3) := by decide +kernel
theorem dX11_step_38 : decode cX11_step 38 = .ok (.return_, 1) := by decide +kernel
theorem dX11_goIn_0 : decode cX11_goIn 0 = .ok (.iconst (-1), 1) := by decide +kernel
theorem dX11_goIn_1 : decode cX11_goIn 1 = .ok (.istore_n 1, 1) := by decide +kernel
theorem dX11_goIn_2 : decode cX11_goIn 2 = .ok (.aload_n 0, 1) := by decide +kernel
theorem dX11_goIn_3 : decode cX11_goIn 3 = .ok (.getfield 23, 3) := by decide +kernel
theorem dX11_goIn_6 : decode cX11_goIn 6 = .ok (.aload_n 0, 1) := by decide +kernel
theorem dX11_goIn_7 : decode cX11_goIn 7 = .ok (.getfield 128, 3) := by decide +kernel
theorem dX11_goIn_10 : decode cX11_goIn 10 = .ok (.iaload, 1) := by decide +kernel
theorem dX11_goIn_11 : decode cX11_goIn 11 = .ok (.iconst 1, 1) := by decide +kernel
theorem dX11_goIn_12 : decode cX11_goIn 12 = .ok (.isub, 1) := by decide +kernel
theorem dX11_goIn_13 : decode cX11_goIn 13 = .ok (.istore_n 2, 1) := by decide +kernel
theorem dX11_goIn_14 : decode cX11_goIn 14 = .ok (.iload_n 2, 1) := by decide +kernel
theorem dX11_goIn_15 : decode cX11_goIn 15 = .ok (.ifCond .lt 50, 3) := by decide +kernel
theorem dX11_goIn_18 : decode cX11_goIn 18 = .ok (.aload_n 0, 1) := by decide +kernel
theorem dX11_goIn_19 : decode cX11_goIn 19 = .ok (.getfield 44, 3) := by decide +kernel
theorem dX11_goIn_22 : decode cX11_goIn 22 = .ok (.aload_n 0, 1) := by decide +kernel
theorem dX11_goIn_23 : decode cX11_goIn 23 = .ok (.getfield 20, 3) := by decide +kernel
theorem dX11_goIn_26 : decode cX11_goIn 26 = .ok (.bipush 10, 2) := by decide +kernel
theorem dX11_goIn_28 : decode cX11_goIn 28 = .ok (.aload_n 0, 1) := by decide +kernel
theorem dX11_goIn_29 : decode cX11_goIn 29 = .ok (.getfield 128, 3) := by decide +kernel
theorem dX11_goIn_32 : decode cX11_goIn 32 = .ok (.imul, 1) := by decide +kernel
theorem dX11_goIn_33 : decode cX11_goIn 33 = .ok (.iload_n 2, 1) := by decide +kernel
theorem dX11_goIn_34 : decode cX11_goIn 34 = .ok (.iadd, 1) := by decide +kernel
theorem dX11_goIn_35 : decode cX11_goIn 35 = .ok (.iaload, 1) := by decide +kernel
theorem dX11_goIn_36 : decode cX11_goIn 36 = .ok (.baload, 1) := by decide +kernel
theorem dX11_goIn_37 : decode cX11_goIn 37 = .ok (.ifCond .eq 7, 3) := by decide +kernel
theorem dX11_goIn_40 : decode cX11_goIn 40 = .ok (.iload_n 1, 1) := by decide +kernel
theorem dX11_goIn_41 : decode cX11_goIn 41 = .ok (.goto 17, 3) := by decide +kernel
theorem dX11_goIn_44 : decode cX11_goIn 44 = .ok (.aload_n 0, 1) := by decide +kernel
theorem dX11_goIn_45 : decode cX11_goIn 45 = .ok (.getfield 20, 3) := by decide +kernel
theorem dX11_goIn_48 : decode cX11_goIn 48 = .ok (.bipush 10, 2) := by decide +kernel
theorem dX11_goIn_50 : decode cX11_goIn 50 = .ok (.aload_n 0, 1) := by decide +kernel
theorem dX11_goIn_51 : decode cX11_goIn 51 = .ok (.getfield 128, 3) := by decide +kernel
theorem dX11_goIn_54 : decode cX11_goIn 54 = .ok (.imul, 1) := by decide +kernel
theorem dX11_goIn_55 : decode cX11_goIn 55 = .ok (.iload_n 2, 1) := by decide +kernel
theorem dX11_goIn_56 : decode cX11_goIn 56 = .ok (.iadd, 1) := by decide +kernel
theorem dX11_goIn_57 : decode cX11_goIn 57 = .ok (.iaload, 1) := by decide +kernel
theorem dX11_goIn_58 : decode cX11_goIn 58 = .ok (.istore_n 1, 1) := by decide +kernel
theorem dX11_goIn_59 : decode cX11_goIn 59 = .ok (.iinc 2 (-1), 3) := by decide +kernel
theorem dX11_goIn_62 : decode cX11_goIn 62 = .ok (.goto (-48), 3) := by decide +kernel
theorem dX11_goIn_65 : decode cX11_goIn 65 = .ok (.aload_n 0, 1) := by decide +kernel
theorem dX11_goIn_66 : decode cX11_goIn 66 = .ok (.iload_n 1, 1) := by decide +kernel
theorem dX11_goIn_67 : decode cX11_goIn 67 = .ok (.invokestatic 340, 3) := by decide +kernel
theorem dX11_goIn_70 : decode cX11_goIn 70 = .ok (.invokevirtual 336, 3) := by decide +kernel
theorem dX11_goIn_73 : decode cX11_goIn 73 = .ok (.return_, 1) := by decide +kernel
abbrev mX11_readingAt : gM := (yX11_readingAt, cX11_readingAt, 2, (Option.some FieldType.int), [])
theorem caX11_readingAt : cal mX11_readingAt 1 := ⟨xw 1829 (by decide +kernel) rfl, xw 102 (by decide +kernel) rfl, by decide, by decide +kernel⟩
theorem cvX11_readingAt : calV mX11_readingAt := ⟨xw 1827 (by decide +kernel) rfl, xw 1828 (by decide +kernel) rfl⟩
abbrev mX11_partHeads : gM := (yX11_partHeads, cX11_partHeads, 8, (Option.none : Option FieldType), [])
theorem caX11_partHeads : cal mX11_partHeads 2 := ⟨xw 1879 (by decide +kernel) rfl, xw 102 (by decide +kernel) rfl, by decide, by decide +kernel⟩
theorem cvX11_partHeads : calV mX11_partHeads := ⟨xw 1878 (by decide +kernel) rfl, xw 70 (by decide +kernel) rfl⟩
abbrev mX11_go : gM := (yX11_go, cX11_go, 2, (Option.none : Option FieldType), [])
theorem caX11_go : cal mX11_go 1 := ⟨xw 1875 (by decide +kernel) rfl, xw 102 (by decide +kernel) rfl, by decide, by decide +kernel⟩
theorem cvX11_go : calV mX11_go := ⟨xw 1874 (by decide +kernel) rfl, xw 69 (by decide +kernel) rfl⟩
abbrev mX11_goOr : gM := (yX11_goOr, cX11_goOr, 4, (Option.none : Option FieldType), [])
theorem caX11_goOr : cal mX11_goOr 2 := ⟨xw 1863 (by decide +kernel) rfl, xw 102 (by decide +kernel) rfl, by decide, by decide +kernel⟩
theorem cvX11_goOr : calV mX11_goOr := ⟨xw 1862 (by decide +kernel) rfl, xw 66 (by decide +kernel) rfl⟩
abbrev mX11_none : gM := (yX11_none, cX11_none, 0, (Option.some FieldType.long), [])
theorem caX11_none : cal mX11_none 0 := ⟨xw 1882 (by decide +kernel) rfl, xw 102 (by decide +kernel) rfl, by decide, by decide +kernel⟩
theorem csX11_none : Cond.static yX11_none ∈ XW := xw 1881 (by decide +kernel) rfl
abbrev mX11_end : gM := (yX11_end, cX11_end, 0, (Option.some FieldType.long), [])
theorem caX11_end : cal mX11_end 0 := ⟨xw 1859 (by decide +kernel) rfl, xw 102 (by decide +kernel) rfl, by decide, by decide +kernel⟩
theorem csX11_end : Cond.static yX11_end ∈ XW := xw 1858 (by decide +kernel) rfl
abbrev mX11_step : gM := (yX11_step, cX11_step, 3, (Option.none : Option FieldType), [])
theorem caX11_step : cal mX11_step 1 := ⟨xw 1852 (by decide +kernel) rfl, xw 102 (by decide +kernel) rfl, by decide, by decide +kernel⟩
theorem cvX11_step : calV mX11_step := ⟨xw 1851 (by decide +kernel) rfl, xw 64 (by decide +kernel) rfl⟩
abbrev mX11_goIn : gM := (yX11_goIn, cX11_goIn, 3, (Option.none : Option FieldType), [])
theorem caX11_goIn : cal mX11_goIn 0 := ⟨xw 1886 (by decide +kernel) rfl, xw 102 (by decide +kernel) rfl, by decide, by decide +kernel⟩
theorem cvX11_goIn : calV mX11_goIn := ⟨xw 1885 (by decide +kernel) rfl, xw 71 (by decide +kernel) rfl⟩
theorem lkX11_318 : Cond.methodLink RX11 318 yX11_partHeads ∈ XW := xw 1876 (by decide +kernel) rfl
theorem lkX11_325 : Cond.methodLink RX11 325 yX11_go ∈ XW := xw 1872 (by decide +kernel) rfl
theorem lkX11_322 : Cond.methodLink RX11 322 yX11_say ∈ XW := xw 1864 (by decide +kernel) rfl
theorem lkX11_328 : Cond.methodLink RX11 328 yX11_layCursor ∈ XW := xw 1853 (by decide +kernel) rfl
theorem lkX11_332 : Cond.methodLink RX11 332 yX11_end ∈ XW := xw 1857 (by decide +kernel) rfl
theorem lkX11_336 : Cond.methodLink RX11 336 yX11_goOr ∈ XW := xw 1860 (by decide +kernel) rfl
theorem lkX11_340 : Cond.methodLink RX11 340 yX11_none ∈ XW := xw 1880 (by decide +kernel) rfl
/-! BrailleDeskModel.readingAt -/
theorem tX11_readingAt {G : gG} (a0 : Nat) (h : hp) (a1 : Int32) (m : mm) (Q : hQ) (hF : okB (fX11_readingAt a1 m) (pM gI Q a0 h)) : gS G mX11_readingAt 1 0 0 [sr (some a0), si a1] (jn a0 h m) Q := by
  delta fX11_readingAt at hF
  refine gS_at [some (sr (some a0)), some (si a1)] pl_X11 rfl (Nat.le_of_ble_eq_true rfl) rfl ?_
  refine v_aload_n (pc := 0) (i := 0) dX11_readingAt_0 rfl rfl ?_
  refine chM_V (pc := 1) gU (as := []) (st := []) (N := mX11_layOrder) (k := 0) (n := 0) (k1 := 0) (n1 := 0) dX11_readingAt_1 lkX11_125 caX11_layOrder cvX11_layOrder rfl rfl (fun Q1 hq => tX11_layOrder a0 h m Q1 hq) ⟨by decide, by decide⟩ (Nat.le_of_ble_eq_true rfl) rfl hF (fun x1 m2 hF => ?_)
  show gV G mX11_readingAt 1 Q 4 [some (sr (some a0)), some (si a1)] [] (0) (0) (jn a0 h m2)
  refine v_aload_n (pc := 4) (i := 0) dX11_readingAt_4 rfl rfl ?_
  refine v_iload_n (pc := 5) (i := 1) dX11_readingAt_5 rfl rfl ?_
  refine v_iconst (pc := 6) (v := (0 : Int32)) dX11_readingAt_6 rfl ?_
  refine v_aload_n (pc := 7) (i := 0) dX11_readingAt_7 rfl rfl ?_
  refine m_getI (pc := 8) (j := 50) dX11_readingAt_8 flX11_122 rfl rfl ?_
  refine v_iconst (pc := 11) (v := (1 : Int32)) dX11_readingAt_11 rfl ?_
  refine v_isub (pc := 12) dX11_readingAt_12 ?_
  refine cp_S (pc := 13) gI (as := [si a1, si (0 : Int32), si ((m2 50 0) - (1 : Int32))]) (st := [sr (some a0)]) (N := mX11_in) (k := 0) (n := 0) (k1 := 0) (n1 := 0) dX11_readingAt_13 lkX11_114 caX11_in csX11_in rfl (fun Q1 hq => tX11_in a1 (0 : Int32) ((m2 50 0) - (1 : Int32)) (jn a0 h m2) Q1 hq) ⟨by decide, by decide⟩ (Nat.le_of_ble_eq_true rfl) rfl hF (fun x3 hF => ?_)
  show gV G mX11_readingAt 1 Q 16 [some (sr (some a0)), some (si a1)] [si x3, sr (some a0)] (0) (0) (jn a0 h m2)
  refine mg (X := fun q4 => gV G mX11_readingAt 1 Q 24 [some (sr (some a0)), some (si a1)] [si q4, sr (some a0)] (0) (0) (jn a0 h m2)) hF (fun _ hj5 hF => ?_) (fun q4 hF => ?_)
  · refine v_if_eq (pc := 16) 23 dX11_readingAt_16 rfl (fun hc => ?_) (fun hc => ?_)
    · replace hF := (okB_if hF).1 hc
      refine v_iconst (pc := 23) (v := (1 : Int32)) dX11_readingAt_23 rfl ?_
      exact v_lle [some (sr (some a0)), some (si a1)] ⟨rfl, rfl, trivial⟩ (hj5 (1 : Int32) (okB_some hF))
    replace hF := (okB_if hF).2 hc
    refine v_iconst (pc := 19) (v := (0 : Int32)) dX11_readingAt_19 rfl ?_
    refine v_goto (pc := 20) 24 dX11_readingAt_20 rfl ?_
    exact v_lle [some (sr (some a0)), some (si a1)] ⟨rfl, rfl, trivial⟩ (hj5 (0 : Int32) (okB_some hF))
  refine m_putI (pc := 24) (j := 48) dX11_readingAt_24 flX11_111 rfl rfl rfl hF (fun m6 hF => ?_)
  refine v_aload_n (pc := 27) (i := 0) dX11_readingAt_27 rfl rfl ?_
  refine m_getI (pc := 28) (j := 48) dX11_readingAt_28 flX11_111 rfl rfl ?_
  refine v_if_ne (pc := 31) 43 dX11_readingAt_31 rfl (fun hc => ?_) (fun hc => ?_)
  · replace hF := (okB_if hF).2 hc
    refine v_iconst (pc := 43) (v := (0 : Int32)) dX11_readingAt_43 rfl ?_
    exact v_iret (pc := 44) dX11_readingAt_44 rfl rfl (okr hF fun q => q)
  replace hF := (okB_if hF).1 hc
  refine v_aload_n (pc := 34) (i := 0) dX11_readingAt_34 rfl rfl ?_
  refine m_getA (pc := 35) (j := 49) dX11_readingAt_35 flX11_92 rfl (by decide) ?_
  refine v_iload_n (pc := 38) (i := 1) dX11_readingAt_38 rfl rfl ?_
  refine m_iald (pc := 39) (j := 49) dX11_readingAt_39 hF (fun x7 hF => ?_)
  refine v_goto (pc := 40) 44 dX11_readingAt_40 rfl ?_
  exact v_iret (pc := 44) dX11_readingAt_44 rfl rfl (okr hF fun q => q)
/-! BrailleDeskModel.partHeads -/
theorem tX11_partHeads {G : gG} (a0 : Nat) (h : hp) (a1 : Int32) (a2 : Int32) (m : mm) (Q : hQ) (hF : okB (fX11_partHeads a1 a2 m) (pM gU Q a0 h)) : gS G mX11_partHeads 4 0 0 [sr (some a0), si a1, si a2] (jn a0 h m) Q := by
  delta fX11_partHeads at hF
  refine gS_at [some (sr (some a0)), some (si a1), some (si a2), none, none, none, none, none] pl_X11 rfl (Nat.le_of_ble_eq_true rfl) rfl ?_
  refine v_aload_n (pc := 0) (i := 0) dX11_partHeads_0 rfl rfl ?_
  refine m_getA (pc := 1) (j := 3) dX11_partHeads_1 flX11_17 rfl (by decide) ?_
  refine v_iload_n (pc := 4) (i := 2) dX11_partHeads_4 rfl rfl ?_
  refine m_iald (pc := 5) (j := 3) dX11_partHeads_5 hF (fun x1 hF => ?_)
  refine v_istore_n (pc := 6) (i := 3) [some (sr (some a0)), some (si a1), some (si a2), some (si x1), none, none, none, none] dX11_partHeads_6 rfl (by decide) rfl rfl ?_
  refine v_aload_n (pc := 7) (i := 0) dX11_partHeads_7 rfl rfl ?_
  refine m_getA (pc := 8) (j := 3) dX11_partHeads_8 flX11_17 rfl (by decide) ?_
  refine v_iload_n (pc := 11) (i := 1) dX11_partHeads_11 rfl rfl ?_
  refine m_iald (pc := 12) (j := 3) dX11_partHeads_12 hF (fun x2 hF => ?_)
  refine v_istore (pc := 13) (i := 4) [some (sr (some a0)), some (si a1), some (si a2), some (si x1), some (si x2), none, none, none] dX11_partHeads_13 (by decide) rfl rfl ?_
  refine v_iload_n (pc := 15) (i := 1) dX11_partHeads_15 rfl rfl ?_
  refine v_iload_n (pc := 16) (i := 2) dX11_partHeads_16 rfl rfl ?_
  refine mg (X := fun q3 => gV G mX11_partHeads 4 Q 75 [some (sr (some a0)), some (si a1), some (si a2), some (si x1), some (si x2), none, none, none] [si q3] (0) (0) (jn a0 h m)) hF (fun _ hj4 hF => ?_) (fun q3 hF => ?_)
  · refine v_icmp_eq (pc := 17) 74 dX11_partHeads_17 rfl (fun hc => ?_) (fun hc => ?_)
    · replace hF := (okB_if hF).1 hc
      refine v_iconst (pc := 74) (v := (0 : Int32)) dX11_partHeads_74 rfl ?_
      exact v_lle [some (sr (some a0)), some (si a1), some (si a2), some (si x1), some (si x2), none, none, none] ⟨rfl, rfl, rfl, rfl, rfl, trivial⟩ (hj4 (0 : Int32) (okB_some hF))
    replace hF := (okB_if hF).2 hc
    refine v_iload_n (pc := 20) (i := 3) dX11_partHeads_20 rfl rfl ?_
    refine v_iconst (pc := 21) (v := (-1 : Int32)) dX11_partHeads_21 rfl ?_
    refine v_icmp_eq (pc := 22) 74 dX11_partHeads_22 rfl (fun hc => ?_) (fun hc => ?_)
    · replace hF := (okB_if hF).1 hc
      refine v_iconst (pc := 74) (v := (0 : Int32)) dX11_partHeads_74 rfl ?_
      exact v_lle [some (sr (some a0)), some (si a1), some (si a2), some (si x1), some (si x2), none, none, none] ⟨rfl, rfl, rfl, rfl, rfl, trivial⟩ (hj4 (0 : Int32) (okB_some hF))
    replace hF := (okB_if hF).2 hc
    refine v_iload (pc := 25) (i := 4) dX11_partHeads_25 rfl ?_
    refine v_iconst (pc := 27) (v := (-1 : Int32)) dX11_partHeads_27 rfl ?_
    refine v_icmp_eq (pc := 28) 74 dX11_partHeads_28 rfl (fun hc => ?_) (fun hc => ?_)
    · replace hF := (okB_if hF).1 hc
      refine v_iconst (pc := 74) (v := (0 : Int32)) dX11_partHeads_74 rfl ?_
      exact v_lle [some (sr (some a0)), some (si a1), some (si a2), some (si x1), some (si x2), none, none, none] ⟨rfl, rfl, rfl, rfl, rfl, trivial⟩ (hj4 (0 : Int32) (okB_some hF))
    replace hF := (okB_if hF).2 hc
    refine v_aload_n (pc := 31) (i := 0) dX11_partHeads_31 rfl rfl ?_
    refine m_getA (pc := 32) (j := 2) dX11_partHeads_32 flX11_13 rfl (by decide) ?_
    refine v_iload_n (pc := 35) (i := 3) dX11_partHeads_35 rfl rfl ?_
    refine m_iald (pc := 36) (j := 2) dX11_partHeads_36 hF (fun x5 hF => ?_)
    refine v_bipush (pc := 37) (v := (6 : Int32)) dX11_partHeads_37 rfl ?_
    refine v_icmp_ne (pc := 39) 74 dX11_partHeads_39 rfl (fun hc => ?_) (fun hc => ?_)
    · replace hF := (okB_if hF).2 hc
      refine v_iconst (pc := 74) (v := (0 : Int32)) dX11_partHeads_74 rfl ?_
      exact v_lle [some (sr (some a0)), some (si a1), some (si a2), some (si x1), some (si x2), none, none, none] ⟨rfl, rfl, rfl, rfl, rfl, trivial⟩ (hj4 (0 : Int32) (okB_some hF))
    replace hF := (okB_if hF).1 hc
    refine v_aload_n (pc := 42) (i := 0) dX11_partHeads_42 rfl rfl ?_
    refine m_getA (pc := 43) (j := 2) dX11_partHeads_43 flX11_13 rfl (by decide) ?_
    refine v_iload (pc := 46) (i := 4) dX11_partHeads_46 rfl ?_
    refine m_iald (pc := 48) (j := 2) dX11_partHeads_48 hF (fun x6 hF => ?_)
    refine v_bipush (pc := 49) (v := (6 : Int32)) dX11_partHeads_49 rfl ?_
    refine v_icmp_ne (pc := 51) 74 dX11_partHeads_51 rfl (fun hc => ?_) (fun hc => ?_)
    · replace hF := (okB_if hF).2 hc
      refine v_iconst (pc := 74) (v := (0 : Int32)) dX11_partHeads_74 rfl ?_
      exact v_lle [some (sr (some a0)), some (si a1), some (si a2), some (si x1), some (si x2), none, none, none] ⟨rfl, rfl, rfl, rfl, rfl, trivial⟩ (hj4 (0 : Int32) (okB_some hF))
    replace hF := (okB_if hF).1 hc
    refine v_aload_n (pc := 54) (i := 0) dX11_partHeads_54 rfl rfl ?_
    refine m_getA (pc := 55) (j := 3) dX11_partHeads_55 flX11_17 rfl (by decide) ?_
    refine v_iload_n (pc := 58) (i := 3) dX11_partHeads_58 rfl rfl ?_
    refine m_iald (pc := 59) (j := 3) dX11_partHeads_59 hF (fun x7 hF => ?_)
    refine v_aload_n (pc := 60) (i := 0) dX11_partHeads_60 rfl rfl ?_
    refine m_getA (pc := 61) (j := 3) dX11_partHeads_61 flX11_17 rfl (by decide) ?_
    refine v_iload (pc := 64) (i := 4) dX11_partHeads_64 rfl ?_
    refine m_iald (pc := 66) (j := 3) dX11_partHeads_66 hF (fun x8 hF => ?_)
    refine v_icmp_ne (pc := 67) 74 dX11_partHeads_67 rfl (fun hc => ?_) (fun hc => ?_)
    · replace hF := (okB_if hF).2 hc
      refine v_iconst (pc := 74) (v := (0 : Int32)) dX11_partHeads_74 rfl ?_
      exact v_lle [some (sr (some a0)), some (si a1), some (si a2), some (si x1), some (si x2), none, none, none] ⟨rfl, rfl, rfl, rfl, rfl, trivial⟩ (hj4 (0 : Int32) (okB_some hF))
    replace hF := (okB_if hF).1 hc
    refine v_iconst (pc := 70) (v := (1 : Int32)) dX11_partHeads_70 rfl ?_
    refine v_goto (pc := 71) 75 dX11_partHeads_71 rfl ?_
    exact v_lle [some (sr (some a0)), some (si a1), some (si a2), some (si x1), some (si x2), none, none, none] ⟨rfl, rfl, rfl, rfl, rfl, trivial⟩ (hj4 (1 : Int32) (okB_some hF))
  refine v_istore (pc := 75) (i := 5) [some (sr (some a0)), some (si a1), some (si a2), some (si x1), some (si x2), some (si q3), none, none] dX11_partHeads_75 (by decide) rfl rfl ?_
  refine v_iload (pc := 77) (i := 5) dX11_partHeads_77 rfl ?_
  refine v_if_eq (pc := 79) 90 dX11_partHeads_79 rfl (fun hc => ?_) (fun hc => ?_)
  · replace hF := (okB_if hF).1 hc
    exact v_ret (pc := 90) dX11_partHeads_90 rfl (okr hF fun q => q)
  replace hF := (okB_if hF).2 hc
  refine v_aload_n (pc := 82) (i := 0) dX11_partHeads_82 rfl rfl ?_
  refine v_iload_n (pc := 83) (i := 2) dX11_partHeads_83 rfl rfl ?_
  refine cpM_V (pc := 84) gI (as := [si a2]) (st := []) (N := mX11_levelOf) (k := 0) (n := 0) (k1 := 0) (n1 := 0) dX11_partHeads_84 lkX11_164 caX11_levelOf cvX11_levelOf rfl rfl (fun Q1 hq => tX11_levelOf a0 h a2 m Q1 hq) ⟨by decide, by decide⟩ (Nat.le_of_ble_eq_true rfl) rfl hF (fun x9 hF => ?_)
  show gV G mX11_partHeads 4 Q 87 [some (sr (some a0)), some (si a1), some (si a2), some (si x1), some (si x2), some (si q3), none, none] [si x9] (0) (0) (jn a0 h m)
  refine v_if_ne (pc := 87) 91 dX11_partHeads_87 rfl (fun hc => ?_) (fun hc => ?_)
  · replace hF := (okB_if hF).2 hc
    refine v_iload_n (pc := 91) (i := 3) dX11_partHeads_91 rfl rfl ?_
    refine v_iload (pc := 92) (i := 4) dX11_partHeads_92 rfl ?_
    refine mg (X := fun q10 => gV G mX11_partHeads 4 Q 123 [some (sr (some a0)), some (si a1), some (si a2), some (si x1), none, none, none, none] [] (0) (0) (jn a0 h q10)) hF (fun _ hj11 hF => ?_) (fun q10 hF => ?_)
    · refine v_icmp_eq (pc := 94) 123 dX11_partHeads_94 rfl (fun hc => ?_) (fun hc => ?_)
      · replace hF := (okB_if hF).1 hc
        exact v_lle [some (sr (some a0)), some (si a1), some (si a2), some (si x1), none, none, none, none] ⟨rfl, rfl, rfl, rfl, trivial⟩ (hj11 m (okB_some hF))
      replace hF := (okB_if hF).2 hc
      refine v_aload_n (pc := 97) (i := 0) dX11_partHeads_97 rfl rfl ?_
      refine m_getA (pc := 98) (j := 4) dX11_partHeads_98 flX11_20 rfl (by decide) ?_
      refine v_bipush (pc := 101) (v := (10 : Int32)) dX11_partHeads_101 rfl ?_
      refine v_iload_n (pc := 103) (i := 3) dX11_partHeads_103 rfl rfl ?_
      refine v_imul (pc := 104) dX11_partHeads_104 ?_
      refine m_iald (pc := 105) (j := 4) dX11_partHeads_105 hF (fun x12 hF => ?_)
      refine v_iload_n (pc := 106) (i := 2) dX11_partHeads_106 rfl rfl ?_
      refine v_icmp_eq (pc := 107) 123 dX11_partHeads_107 rfl (fun hc => ?_) (fun hc => ?_)
      · replace hF := (okB_if hF).1 hc
        exact v_lle [some (sr (some a0)), some (si a1), some (si a2), some (si x1), none, none, none, none] ⟨rfl, rfl, rfl, rfl, trivial⟩ (hj11 m (okB_some hF))
      replace hF := (okB_if hF).2 hc
      refine v_aload_n (pc := 110) (i := 0) dX11_partHeads_110 rfl rfl ?_
      refine v_aload_n (pc := 111) (i := 0) dX11_partHeads_111 rfl rfl ?_
      refine m_getA (pc := 112) (j := 4) dX11_partHeads_112 flX11_20 rfl (by decide) ?_
      refine v_bipush (pc := 115) (v := (10 : Int32)) dX11_partHeads_115 rfl ?_
      refine v_iload_n (pc := 117) (i := 3) dX11_partHeads_117 rfl rfl ?_
      refine v_imul (pc := 118) dX11_partHeads_118 ?_
      refine m_iald (pc := 119) (j := 4) dX11_partHeads_119 hF (fun x13 hF => ?_)
      refine chM_V (pc := 120) gU (as := [si x13]) (st := []) (N := mX11_partName) (k := 0) (n := 0) (k1 := 0) (n1 := 0) dX11_partHeads_120 lkX11_168 caX11_partName cvX11_partName rfl rfl (fun Q1 hq => tX11_partName a0 h x13 m Q1 hq) ⟨by decide, by decide⟩ (Nat.le_of_ble_eq_true rfl) rfl hF (fun x14 m15 hF => ?_)
      show gV G mX11_partHeads 4 Q 123 [some (sr (some a0)), some (si a1), some (si a2), some (si x1), some (si x2), some (si q3), none, none] [] (0) (0) (jn a0 h m15)
      exact v_lle [some (sr (some a0)), some (si a1), some (si a2), some (si x1), none, none, none, none] ⟨rfl, rfl, rfl, rfl, trivial⟩ (hj11 m15 (okB_some hF))
    refine v_aload_n (pc := 123) (i := 0) dX11_partHeads_123 rfl rfl ?_
    refine m_getA (pc := 124) (j := 4) dX11_partHeads_124 flX11_20 rfl (by decide) ?_
    refine v_bipush (pc := 127) (v := (10 : Int32)) dX11_partHeads_127 rfl ?_
    refine v_aload_n (pc := 129) (i := 0) dX11_partHeads_129 rfl rfl ?_
    refine m_getA (pc := 130) (j := 3) dX11_partHeads_130 flX11_17 rfl (by decide) ?_
    refine v_iload_n (pc := 133) (i := 3) dX11_partHeads_133 rfl rfl ?_
    refine m_iald (pc := 134) (j := 3) dX11_partHeads_134 hF (fun x16 hF => ?_)
    refine v_imul (pc := 135) dX11_partHeads_135 ?_
    refine m_iald (pc := 136) (j := 4) dX11_partHeads_136 hF (fun x17 hF => ?_)
    refine v_istore (pc := 137) (i := 6) [some (sr (some a0)), some (si a1), some (si a2), some (si x1), none, none, some (si x17), none] dX11_partHeads_137 (by decide) rfl rfl ?_
    refine v_aload_n (pc := 139) (i := 0) dX11_partHeads_139 rfl rfl ?_
    refine v_iload_n (pc := 140) (i := 2) dX11_partHeads_140 rfl rfl ?_
    refine cpM_V (pc := 141) gI (as := [si a2]) (st := []) (N := mX11_placeOf) (k := 0) (n := 0) (k1 := 0) (n1 := 0) dX11_partHeads_141 lkX11_302 caX11_placeOf cvX11_placeOf rfl rfl (fun Q1 hq => tX11_placeOf a0 h a2 q10 Q1 hq) ⟨by decide, by decide⟩ (Nat.le_of_ble_eq_true rfl) rfl hF (fun x18 hF => ?_)
    show gV G mX11_partHeads 4 Q 144 [some (sr (some a0)), some (si a1), some (si a2), some (si x1), none, none, some (si x17), none] [si x18] (0) (0) (jn a0 h q10)
    refine v_istore (pc := 144) (i := 7) [some (sr (some a0)), some (si a1), some (si a2), some (si x1), none, none, some (si x17), some (si x18)] dX11_partHeads_144 (by decide) rfl rfl ?_
    refine v_iload (pc := 146) (i := 7) dX11_partHeads_146 rfl ?_
    refine v_aload_n (pc := 148) (i := 0) dX11_partHeads_148 rfl rfl ?_
    refine v_iload_n (pc := 149) (i := 1) dX11_partHeads_149 rfl rfl ?_
    refine cpM_V (pc := 150) gI (as := [si a1]) (st := [si x18]) (N := mX11_placeOf) (k := 0) (n := 0) (k1 := 0) (n1 := 0) dX11_partHeads_150 lkX11_302 caX11_placeOf cvX11_placeOf rfl rfl (fun Q1 hq => tX11_placeOf a0 h a1 q10 Q1 hq) ⟨by decide, by decide⟩ (Nat.le_of_ble_eq_true rfl) rfl hF (fun x19 hF => ?_)
    show gV G mX11_partHeads 4 Q 153 [some (sr (some a0)), some (si a1), some (si a2), some (si x1), none, none, some (si x17), some (si x18)] [si x19, si x18] (0) (0) (jn a0 h q10)
    refine v_icmp_eq (pc := 153) 202 dX11_partHeads_153 rfl (fun hc => ?_) (fun hc => ?_)
    · replace hF := (okB_if hF).1 hc
      exact v_ret (pc := 202) dX11_partHeads_202 rfl (okr hF fun q => q)
    replace hF := (okB_if hF).2 hc
    refine v_iload (pc := 156) (i := 7) dX11_partHeads_156 rfl ?_
    refine v_aload_n (pc := 158) (i := 0) dX11_partHeads_158 rfl rfl ?_
    refine m_getA (pc := 159) (j := 5) dX11_partHeads_159 flX11_23 rfl (by decide) ?_
    refine v_iload (pc := 162) (i := 6) dX11_partHeads_162 rfl ?_
    refine m_iald (pc := 164) (j := 5) dX11_partHeads_164 hF (fun x20 hF => ?_)
    refine v_icmp_ge (pc := 165) 202 dX11_partHeads_165 rfl (fun hc => ?_) (fun hc => ?_)
    · replace hF := (okB_if hF).1 hc
      exact v_ret (pc := 202) dX11_partHeads_202 rfl (okr hF fun q => q)
    replace hF := (okB_if hF).2 hc
    refine v_aload_n (pc := 168) (i := 0) dX11_partHeads_168 rfl rfl ?_
    refine m_getA (pc := 169) (j := 4) dX11_partHeads_169 flX11_20 rfl (by decide) ?_
    refine v_bipush (pc := 172) (v := (10 : Int32)) dX11_partHeads_172 rfl ?_
    refine v_iload (pc := 174) (i := 6) dX11_partHeads_174 rfl ?_
    refine v_imul (pc := 176) dX11_partHeads_176 ?_
    refine v_iload (pc := 177) (i := 7) dX11_partHeads_177 rfl ?_
    refine v_iadd (pc := 179) dX11_partHeads_179 ?_
    refine m_iald (pc := 180) (j := 4) dX11_partHeads_180 hF (fun x21 hF => ?_)
    refine v_iload_n (pc := 181) (i := 2) dX11_partHeads_181 rfl rfl ?_
    refine v_icmp_eq (pc := 182) 202 dX11_partHeads_182 rfl (fun hc => ?_) (fun hc => ?_)
    · replace hF := (okB_if hF).1 hc
      exact v_ret (pc := 202) dX11_partHeads_202 rfl (okr hF fun q => q)
    replace hF := (okB_if hF).2 hc
    refine v_aload_n (pc := 185) (i := 0) dX11_partHeads_185 rfl rfl ?_
    refine v_aload_n (pc := 186) (i := 0) dX11_partHeads_186 rfl rfl ?_
    refine m_getA (pc := 187) (j := 4) dX11_partHeads_187 flX11_20 rfl (by decide) ?_
    refine v_bipush (pc := 190) (v := (10 : Int32)) dX11_partHeads_190 rfl ?_
    refine v_iload (pc := 192) (i := 6) dX11_partHeads_192 rfl ?_
    refine v_imul (pc := 194) dX11_partHeads_194 ?_
    refine v_iload (pc := 195) (i := 7) dX11_partHeads_195 rfl ?_
    refine v_iadd (pc := 197) dX11_partHeads_197 ?_
    refine m_iald (pc := 198) (j := 4) dX11_partHeads_198 hF (fun x22 hF => ?_)
    refine chM_V (pc := 199) gU (as := [si x22]) (st := []) (N := mX11_partName) (k := 0) (n := 0) (k1 := 0) (n1 := 0) dX11_partHeads_199 lkX11_168 caX11_partName cvX11_partName rfl rfl (fun Q1 hq => tX11_partName a0 h x22 q10 Q1 hq) ⟨by decide, by decide⟩ (Nat.le_of_ble_eq_true rfl) rfl hF (fun x23 m24 hF => ?_)
    show gV G mX11_partHeads 4 Q 202 [some (sr (some a0)), some (si a1), some (si a2), some (si x1), none, none, some (si x17), some (si x18)] [] (0) (0) (jn a0 h m24)
    exact v_ret (pc := 202) dX11_partHeads_202 rfl (okr hF fun q => q)
  replace hF := (okB_if hF).1 hc
  exact v_ret (pc := 90) dX11_partHeads_90 rfl (okr hF fun q => q)
/-! BrailleDeskModel.go -/
theorem tX11_go {G : gG} (a0 : Nat) (h : hp) (a1 : Int32) (m : mm) (Q : hQ) (hF : okB (fX11_go a1 m) (pM gU Q a0 h)) : gS G mX11_go 5 0 0 [sr (some a0), si a1] (jn a0 h m) Q := by
  delta fX11_go at hF
  refine gS_at [some (sr (some a0)), some (si a1)] pl_X11 rfl (Nat.le_of_ble_eq_true rfl) rfl ?_
  refine v_aload_n (pc := 0) (i := 0) dX11_go_0 rfl rfl ?_
  refine v_iconst (pc := 1) (v := (0 : Int32)) dX11_go_1 rfl ?_
  refine m_putZ (pc := 2) (j := 22) dX11_go_2 flX11_267 rfl rfl rfl hF (fun m1 hF => ?_)
  refine v_aload_n (pc := 5) (i := 0) dX11_go_5 rfl rfl ?_
  refine v_iconst (pc := 6) (v := (0 : Int32)) dX11_go_6 rfl ?_
  refine m_putI (pc := 7) (j := 29) dX11_go_7 flX11_143 rfl rfl rfl hF (fun m2 hF => ?_)
  refine v_aload_n (pc := 10) (i := 0) dX11_go_10 rfl rfl ?_
  refine v_aload_n (pc := 11) (i := 0) dX11_go_11 rfl rfl ?_
  refine m_getI (pc := 12) (j := 20) dX11_go_12 flX11_128 rfl rfl ?_
  refine v_iload_n (pc := 15) (i := 1) dX11_go_15 rfl rfl ?_
  refine chM_V (pc := 16) gU (as := [si (m2 20 0), si a1]) (st := []) (N := mX11_partHeads) (k := 0) (n := 0) (k1 := 0) (n1 := 0) dX11_go_16 lkX11_318 caX11_partHeads cvX11_partHeads rfl rfl (fun Q1 hq => tX11_partHeads a0 h (m2 20 0) a1 m2 Q1 hq) ⟨by decide, by decide⟩ (Nat.le_of_ble_eq_true rfl) rfl hF (fun x3 m4 hF => ?_)
  show gV G mX11_go 5 Q 19 [some (sr (some a0)), some (si a1)] [] (0) (0) (jn a0 h m4)
  refine v_aload_n (pc := 19) (i := 0) dX11_go_19 rfl rfl ?_
  refine v_iload_n (pc := 20) (i := 1) dX11_go_20 rfl rfl ?_
  refine v_aload_n (pc := 21) (i := 0) dX11_go_21 rfl rfl ?_
  refine m_getI (pc := 22) (j := 20) dX11_go_22 flX11_128 rfl rfl ?_
  refine mg (X := fun q5 => gV G mX11_go 5 Q 36 [some (sr (some a0)), some (si a1)] [si q5, sr (some a0)] (0) (0) (jn a0 h m4)) hF (fun _ hj6 hF => ?_) (fun q5 hF => ?_)
  · refine v_icmp_ne (pc := 25) 35 dX11_go_25 rfl (fun hc => ?_) (fun hc => ?_)
    · replace hF := (okB_if hF).2 hc
      refine v_iconst (pc := 35) (v := (0 : Int32)) dX11_go_35 rfl ?_
      exact v_lle [some (sr (some a0)), some (si a1)] ⟨rfl, rfl, trivial⟩ (hj6 (0 : Int32) (okB_some hF))
    replace hF := (okB_if hF).1 hc
    refine v_aload_n (pc := 28) (i := 0) dX11_go_28 rfl rfl ?_
    refine m_getI (pc := 29) (j := 25) dX11_go_29 flX11_274 rfl rfl ?_
    refine v_goto (pc := 32) 36 dX11_go_32 rfl ?_
    exact v_lle [some (sr (some a0)), some (si a1)] ⟨rfl, rfl, trivial⟩ (hj6 (m4 25 0) (okB_some hF))
  refine m_putI (pc := 36) (j := 25) dX11_go_36 flX11_274 rfl rfl rfl hF (fun m7 hF => ?_)
  refine v_aload_n (pc := 39) (i := 0) dX11_go_39 rfl rfl ?_
  refine v_iload_n (pc := 40) (i := 1) dX11_go_40 rfl rfl ?_
  refine m_putI (pc := 41) (j := 20) dX11_go_41 flX11_128 rfl rfl rfl hF (fun m8 hF => ?_)
  refine v_aload_n (pc := 44) (i := 0) dX11_go_44 rfl rfl ?_
  refine v_iload_n (pc := 45) (i := 1) dX11_go_45 rfl rfl ?_
  refine chM_V (pc := 46) gU (as := [si a1]) (st := []) (N := mX11_partWords) (k := 0) (n := 0) (k1 := 0) (n1 := 0) dX11_go_46 lkX11_227 caX11_partWords cvX11_partWords rfl rfl (fun Q1 hq => tX11_partWords a0 h a1 m8 Q1 hq) ⟨by decide, by decide⟩ (Nat.le_of_ble_eq_true rfl) rfl hF (fun x9 m10 hF => ?_)
  show gV G mX11_go 5 Q 49 [some (sr (some a0)), some (si a1)] [] (0) (0) (jn a0 h m10)
  refine v_aload_n (pc := 49) (i := 0) dX11_go_49 rfl rfl ?_
  refine chM_V (pc := 50) gU (as := []) (st := []) (N := mX11_comeAnswer) (k := 0) (n := 0) (k1 := 0) (n1 := 0) dX11_go_50 lkX11_203 caX11_comeAnswer cvX11_comeAnswer rfl rfl (fun Q1 hq => tX11_comeAnswer a0 h m10 Q1 hq) ⟨by decide, by decide⟩ (Nat.le_of_ble_eq_true rfl) rfl hF (fun x11 m12 hF => ?_)
  show gV G mX11_go 5 Q 53 [some (sr (some a0)), some (si a1)] [] (0) (0) (jn a0 h m12)
  exact v_ret (pc := 53) dX11_go_53 rfl (okr hF fun q => q)
/-! BrailleDeskModel.goOr -/
theorem tX11_goOr {G : gG} (a0 : Nat) (h : hp) (a1 : Int32) (a2 : Int64) (m : mm) (Q : hQ) (hF : okB (fX11_goOr a1 a2 m) (pM gU Q a0 h)) : gS G mX11_goOr 6 0 0 [sr (some a0), si a1, sl a2] (jn a0 h m) Q := by
  delta fX11_goOr at hF
  refine gS_at [some (sr (some a0)), some (si a1), some (sl a2), none] pl_X11 rfl (Nat.le_of_ble_eq_true rfl) rfl ?_
  refine v_iload_n (pc := 0) (i := 1) dX11_goOr_0 rfl rfl ?_
  refine v_iconst (pc := 1) (v := (-1 : Int32)) dX11_goOr_1 rfl ?_
  refine v_icmp_ne (pc := 2) 13 dX11_goOr_2 rfl (fun hc => ?_) (fun hc => ?_)
  · replace hF := (okB_if hF).2 hc
    refine v_aload_n (pc := 13) (i := 0) dX11_goOr_13 rfl rfl ?_
    refine v_iload_n (pc := 14) (i := 1) dX11_goOr_14 rfl rfl ?_
    refine chM_V (pc := 15) gU (as := [si a1]) (st := []) (N := mX11_go) (k := 0) (n := 0) (k1 := 0) (n1 := 0) dX11_goOr_15 lkX11_325 caX11_go cvX11_go rfl rfl (fun Q1 hq => tX11_go a0 h a1 m Q1 hq) ⟨by decide, by decide⟩ (Nat.le_of_ble_eq_true rfl) rfl hF (fun x1 m2 hF => ?_)
    show gV G mX11_goOr 6 Q 18 [some (sr (some a0)), some (si a1), some (sl a2), none] [] (0) (0) (jn a0 h m2)
    exact v_ret (pc := 18) dX11_goOr_18 rfl (okr hF fun q => q)
  replace hF := (okB_if hF).1 hc
  refine v_aload_n (pc := 5) (i := 0) dX11_goOr_5 rfl rfl ?_
  refine v_lload_n (pc := 6) (i := 2) dX11_goOr_6 rfl rfl ?_
  refine chM_V (pc := 7) gU (as := [sl a2]) (st := []) (N := mX11_say) (k := 0) (n := 0) (k1 := 0) (n1 := 0) dX11_goOr_7 lkX11_322 caX11_say cvX11_say rfl rfl (fun Q1 hq => tX11_say a0 h a2 m Q1 hq) ⟨by decide, by decide⟩ (Nat.le_of_ble_eq_true rfl) rfl hF (fun x3 m4 hF => ?_)
  show gV G mX11_goOr 6 Q 10 [some (sr (some a0)), some (si a1), some (sl a2), none] [] (0) (0) (jn a0 h m4)
  refine v_goto (pc := 10) 18 dX11_goOr_10 rfl ?_
  exact v_ret (pc := 18) dX11_goOr_18 rfl (okr hF fun q => q)
/-! BrailleDeskModel.none -/
theorem tX11_none {G : gG}  (h : hp) (Q : hQ) (hF : okB (fX11_none) (pP gL Q h)) : gS G mX11_none 1 0 0 [] h Q := by
  delta fX11_none at hF
  refine gS_at [] pl_X11 rfl (Nat.le_of_ble_eq_true rfl) rfl ?_
  refine v_iconst (pc := 0) (v := (0 : Int32)) dX11_none_0 rfl ?_
  refine v_iconst (pc := 1) (v := (0 : Int32)) dX11_none_1 rfl ?_
  refine v_iconst (pc := 2) (v := (0 : Int32)) dX11_none_2 rfl ?_
  refine v_bipush (pc := 3) (v := (110 : Int32)) dX11_none_3 rfl ?_
  refine v_bipush (pc := 5) (v := (111 : Int32)) dX11_none_5 rfl ?_
  refine v_bipush (pc := 7) (v := (110 : Int32)) dX11_none_7 rfl ?_
  refine v_bipush (pc := 9) (v := (101 : Int32)) dX11_none_9 rfl ?_
  refine cp_S (pc := 11) gL (as := [si (0 : Int32), si (0 : Int32), si (0 : Int32), si (110 : Int32), si (111 : Int32), si (110 : Int32), si (101 : Int32)]) (st := []) (N := mX11_word) (k := 0) (n := 0) (k1 := 0) (n1 := 0) dX11_none_11 lkX11_133 caX11_word csX11_word rfl (fun Q1 hq => tX11_word (0 : Int32) (0 : Int32) (0 : Int32) (110 : Int32) (111 : Int32) (110 : Int32) (101 : Int32) h Q1 hq) ⟨by decide, by decide⟩ (Nat.le_of_ble_eq_true rfl) rfl hF (fun x1 hF => ?_)
  show gV G mX11_none 1 Q 14 [] [sl x1] (0) (0) h
  exact v_lret (pc := 14) dX11_none_14 rfl (okr hF fun q => q)
/-! BrailleDeskModel.end -/
theorem tX11_end {G : gG}  (h : hp) (Q : hQ) (hF : okB (fX11_end) (pP gL Q h)) : gS G mX11_end 1 0 0 [] h Q := by
  delta fX11_end at hF
  refine gS_at [] pl_X11 rfl (Nat.le_of_ble_eq_true rfl) rfl ?_
  refine v_iconst (pc := 0) (v := (0 : Int32)) dX11_end_0 rfl ?_
  refine v_iconst (pc := 1) (v := (0 : Int32)) dX11_end_1 rfl ?_
  refine v_iconst (pc := 2) (v := (0 : Int32)) dX11_end_2 rfl ?_
  refine v_iconst (pc := 3) (v := (0 : Int32)) dX11_end_3 rfl ?_
  refine v_bipush (pc := 4) (v := (101 : Int32)) dX11_end_4 rfl ?_
  refine v_bipush (pc := 6) (v := (110 : Int32)) dX11_end_6 rfl ?_
  refine v_bipush (pc := 8) (v := (100 : Int32)) dX11_end_8 rfl ?_
  refine cp_S (pc := 10) gL (as := [si (0 : Int32), si (0 : Int32), si (0 : Int32), si (0 : Int32), si (101 : Int32), si (110 : Int32), si (100 : Int32)]) (st := []) (N := mX11_word) (k := 0) (n := 0) (k1 := 0) (n1 := 0) dX11_end_10 lkX11_133 caX11_word csX11_word rfl (fun Q1 hq => tX11_word (0 : Int32) (0 : Int32) (0 : Int32) (0 : Int32) (101 : Int32) (110 : Int32) (100 : Int32) h Q1 hq) ⟨by decide, by decide⟩ (Nat.le_of_ble_eq_true rfl) rfl hF (fun x1 hF => ?_)
  show gV G mX11_end 1 Q 13 [] [sl x1] (0) (0) h
  exact v_lret (pc := 13) dX11_end_13 rfl (okr hF fun q => q)
/-! BrailleDeskModel.step -/
theorem tX11_step {G : gG} (a0 : Nat) (h : hp) (a1 : Int32) (m : mm) (Q : hQ) (hF : okB (fX11_step a1 m) (pM gU Q a0 h)) : gS G mX11_step 7 0 0 [sr (some a0), si a1] (jn a0 h m) Q := by
  delta fX11_step at hF
  refine gS_at [some (sr (some a0)), some (si a1), none] pl_X11 rfl (Nat.le_of_ble_eq_true rfl) rfl ?_
  refine v_aload_n (pc := 0) (i := 0) dX11_step_0 rfl rfl ?_
  refine chM_V (pc := 1) gI (as := []) (st := []) (N := mX11_layCursor) (k := 0) (n := 0) (k1 := 0) (n1 := 0) dX11_step_1 lkX11_328 caX11_layCursor cvX11_layCursor rfl rfl (fun Q1 hq => tX11_layCursor a0 h m Q1 hq) ⟨by decide, by decide⟩ (Nat.le_of_ble_eq_true rfl) rfl hF (fun x1 m2 hF => ?_)
  show gV G mX11_step 7 Q 4 [some (sr (some a0)), some (si a1), none] [si x1] (0) (0) (jn a0 h m2)
  refine v_iload_n (pc := 4) (i := 1) dX11_step_4 rfl rfl ?_
  refine v_iadd (pc := 5) dX11_step_5 ?_
  refine v_istore_n (pc := 6) (i := 2) [some (sr (some a0)), some (si a1), some (si (x1 + a1))] dX11_step_6 rfl (by decide) rfl rfl ?_
  refine v_aload_n (pc := 7) (i := 0) dX11_step_7 rfl rfl ?_
  refine v_iload_n (pc := 8) (i := 2) dX11_step_8 rfl rfl ?_
  refine v_iconst (pc := 9) (v := (0 : Int32)) dX11_step_9 rfl ?_
  refine v_aload_n (pc := 10) (i := 0) dX11_step_10 rfl rfl ?_
  refine m_getI (pc := 11) (j := 50) dX11_step_11 flX11_122 rfl rfl ?_
  refine v_iconst (pc := 14) (v := (1 : Int32)) dX11_step_14 rfl ?_
  refine v_isub (pc := 15) dX11_step_15 ?_
  refine cp_S (pc := 16) gI (as := [si (x1 + a1), si (0 : Int32), si ((m2 50 0) - (1 : Int32))]) (st := [sr (some a0)]) (N := mX11_in) (k := 0) (n := 0) (k1 := 0) (n1 := 0) dX11_step_16 lkX11_114 caX11_in csX11_in rfl (fun Q1 hq => tX11_in (x1 + a1) (0 : Int32) ((m2 50 0) - (1 : Int32)) (jn a0 h m2) Q1 hq) ⟨by decide, by decide⟩ (Nat.le_of_ble_eq_true rfl) rfl hF (fun x3 hF => ?_)
  show gV G mX11_step 7 Q 19 [some (sr (some a0)), some (si a1), some (si (x1 + a1))] [si x3, sr (some a0)] (0) (0) (jn a0 h m2)
  refine mg (X := fun q4 => gV G mX11_step 7 Q 32 [none, none, none] [si q4, sr (some a0)] (0) (0) (jn a0 h m2)) hF (fun _ hj5 hF => ?_) (fun q4 hF => ?_)
  · refine v_if_eq (pc := 19) 31 dX11_step_19 rfl (fun hc => ?_) (fun hc => ?_)
    · replace hF := (okB_if hF).1 hc
      refine v_iconst (pc := 31) (v := (-1 : Int32)) dX11_step_31 rfl ?_
      exact v_lle [none, none, none] trivial (hj5 (-1 : Int32) (okB_some hF))
    replace hF := (okB_if hF).2 hc
    refine v_aload_n (pc := 22) (i := 0) dX11_step_22 rfl rfl ?_
    refine m_getA (pc := 23) (j := 49) dX11_step_23 flX11_92 rfl (by decide) ?_
    refine v_iload_n (pc := 26) (i := 2) dX11_step_26 rfl rfl ?_
    refine m_iald (pc := 27) (j := 49) dX11_step_27 hF (fun x6 hF => ?_)
    refine v_goto (pc := 28) 32 dX11_step_28 rfl ?_
    exact v_lle [none, none, none] trivial (hj5 x6 (okB_some hF))
  refine cp_S (pc := 32) gL (as := []) (st := [si q4, sr (some a0)]) (N := mX11_end) (k := 0) (n := 0) (k1 := 0) (n1 := 0) dX11_step_32 lkX11_332 caX11_end csX11_end rfl (fun Q1 hq => tX11_end (jn a0 h m2) Q1 hq) ⟨by decide, by decide⟩ (Nat.le_of_ble_eq_true rfl) rfl hF (fun x7 hF => ?_)
  show gV G mX11_step 7 Q 35 [none, none, none] [sl x7, si q4, sr (some a0)] (0) (0) (jn a0 h m2)
  refine chM_V (pc := 35) gU (as := [si q4, sl x7]) (st := []) (N := mX11_goOr) (k := 0) (n := 0) (k1 := 0) (n1 := 0) dX11_step_35 lkX11_336 caX11_goOr cvX11_goOr rfl rfl (fun Q1 hq => tX11_goOr a0 h q4 x7 m2 Q1 hq) ⟨by decide, by decide⟩ (Nat.le_of_ble_eq_true rfl) rfl hF (fun x8 m9 hF => ?_)
  show gV G mX11_step 7 Q 38 [none, none, none] [] (0) (0) (jn a0 h m9)
  exact v_ret (pc := 38) dX11_step_38 rfl (okr hF fun q => q)
/-! BrailleDeskModel.goIn -/
theorem lX11_goIn_14 {G : gG} {Q : hQ} {P : Int32 → Prop} {k n : Nat} (a0 : Nat) (h : hp) (m : mm) (hJ : ∀ q : Int32, P q → gV G mX11_goIn 7 Q 65 [some (sr (some a0)), some (si q), none] [] (k) (n) (jn a0 h m)) : ∀ (fu : Nat) (a : (Int32 × Int32)), okB (itr (fX11_goIn_B14 m) fu a) P → gV G mX11_goIn 7 Q 14 [some (sr (some a0)), some (si a.1), some (si a.2)] [] (k) (n) (jn a0 h m) :=
  lpg (X := fun (a : (Int32 × Int32)) => gV G mX11_goIn 7 Q 14 [some (sr (some a0)), some (si a.1), some (si a.2)] [] (k) (n) (jn a0 h m)) (fun a P2 hL hE hF => by
    delta fX11_goIn_B14 at hF
    refine v_iload_n (pc := 14) (i := 2) dX11_goIn_14 rfl rfl ?_
    refine v_if_lt (pc := 15) 65 dX11_goIn_15 rfl (fun hc => ?_) (fun hc => ?_)
    · replace hF := (okB_if hF).1 hc
      exact v_lle [some (sr (some a0)), some (si a.1), none] ⟨rfl, rfl, trivial⟩ (hJ a.1 (hE _ (okB_some hF)))
    replace hF := (okB_if hF).2 hc
    refine v_aload_n (pc := 18) (i := 0) dX11_goIn_18 rfl rfl ?_
    refine m_getA (pc := 19) (j := 12) dX11_goIn_19 flX11_44 rfl (by decide) ?_
    refine v_aload_n (pc := 22) (i := 0) dX11_goIn_22 rfl rfl ?_
    refine m_getA (pc := 23) (j := 4) dX11_goIn_23 flX11_20 rfl (by decide) ?_
    refine v_bipush (pc := 26) (v := (10 : Int32)) dX11_goIn_26 rfl ?_
    refine v_aload_n (pc := 28) (i := 0) dX11_goIn_28 rfl rfl ?_
    refine m_getI (pc := 29) (j := 20) dX11_goIn_29 flX11_128 rfl rfl ?_
    refine v_imul (pc := 32) dX11_goIn_32 ?_
    refine v_iload_n (pc := 33) (i := 2) dX11_goIn_33 rfl rfl ?_
    refine v_iadd (pc := 34) dX11_goIn_34 ?_
    refine m_iald (pc := 35) (j := 4) dX11_goIn_35 hF (fun x1 hF => ?_)
    refine m_zald (pc := 36) (j := 12) dX11_goIn_36 hF (fun x2 hF => ?_)
    refine v_if_eq (pc := 37) 44 dX11_goIn_37 rfl (fun hc => ?_) (fun hc => ?_)
    · replace hF := (okB_if hF).1 hc
      refine v_aload_n (pc := 44) (i := 0) dX11_goIn_44 rfl rfl ?_
      refine m_getA (pc := 45) (j := 4) dX11_goIn_45 flX11_20 rfl (by decide) ?_
      refine v_bipush (pc := 48) (v := (10 : Int32)) dX11_goIn_48 rfl ?_
      refine v_aload_n (pc := 50) (i := 0) dX11_goIn_50 rfl rfl ?_
      refine m_getI (pc := 51) (j := 20) dX11_goIn_51 flX11_128 rfl rfl ?_
      refine v_imul (pc := 54) dX11_goIn_54 ?_
      refine v_iload_n (pc := 55) (i := 2) dX11_goIn_55 rfl rfl ?_
      refine v_iadd (pc := 56) dX11_goIn_56 ?_
      refine m_iald (pc := 57) (j := 4) dX11_goIn_57 hF (fun x3 hF => ?_)
      refine v_istore_n (pc := 58) (i := 1) [some (sr (some a0)), some (si x3), some (si a.2)] dX11_goIn_58 rfl (by decide) rfl rfl ?_
      refine v_iinc (pc := 59) (i := 2) (a.2 + (-1 : Int32)) [some (sr (some a0)), some (si x3), some (si (a.2 + (-1 : Int32)))] dX11_goIn_59 rfl rfl rfl rfl ?_
      refine v_goto (pc := 62) 14 dX11_goIn_62 rfl ?_
      exact v_lle [some (sr (some a0)), some (si x3), some (si (a.2 + (-1 : Int32)))] ⟨rfl, rfl, rfl, trivial⟩ (hL (x3, a.2 + (-1 : Int32)) (okB_some hF))
    replace hF := (okB_if hF).2 hc
    refine v_iload_n (pc := 40) (i := 1) dX11_goIn_40 rfl rfl ?_
    refine v_goto (pc := 41) 58 dX11_goIn_41 rfl ?_
    refine v_istore_n (pc := 58) (i := 1) [some (sr (some a0)), some (si a.1), some (si a.2)] dX11_goIn_58 rfl (by decide) rfl rfl ?_
    refine v_iinc (pc := 59) (i := 2) (a.2 + (-1 : Int32)) [some (sr (some a0)), some (si a.1), some (si (a.2 + (-1 : Int32)))] dX11_goIn_59 rfl rfl rfl rfl ?_
    refine v_goto (pc := 62) 14 dX11_goIn_62 rfl ?_
    exact v_lle [some (sr (some a0)), some (si a.1), some (si (a.2 + (-1 : Int32)))] ⟨rfl, rfl, rfl, trivial⟩ (hL (a.1, a.2 + (-1 : Int32)) (okB_some hF)))
theorem tX11_goIn {G : gG} (a0 : Nat) (h : hp)  (m : mm) (Q : hQ) (hF : okB (fX11_goIn m) (pM gU Q a0 h)) : gS G mX11_goIn 7 0 0 [sr (some a0)] (jn a0 h m) Q := by
  delta fX11_goIn at hF
  refine gS_at [some (sr (some a0)), none, none] pl_X11 rfl (Nat.le_of_ble_eq_true rfl) rfl ?_
  refine v_iconst (pc := 0) (v := (-1 : Int32)) dX11_goIn_0 rfl ?_
  refine v_istore_n (pc := 1) (i := 1) [some (sr (some a0)), some (si (-1 : Int32)), none] dX11_goIn_1 rfl (by decide) rfl rfl ?_
  refine v_aload_n (pc := 2) (i := 0) dX11_goIn_2 rfl rfl ?_
  refine m_getA (pc := 3) (j := 5) dX11_goIn_3 flX11_23 rfl (by decide) ?_
  refine v_aload_n (pc := 6) (i := 0) dX11_goIn_6 rfl rfl ?_
  refine m_getI (pc := 7) (j := 20) dX11_goIn_7 flX11_128 rfl rfl ?_
  refine m_iald (pc := 10) (j := 5) dX11_goIn_10 hF (fun x1 hF => ?_)
  refine v_iconst (pc := 11) (v := (1 : Int32)) dX11_goIn_11 rfl ?_
  refine v_isub (pc := 12) dX11_goIn_12 ?_
  refine v_istore_n (pc := 13) (i := 2) [some (sr (some a0)), some (si (-1 : Int32)), some (si (x1 - (1 : Int32)))] dX11_goIn_13 rfl (by decide) rfl rfl ?_
  refine mg (X := fun q2 => gV G mX11_goIn 7 Q 65 [some (sr (some a0)), some (si q2), none] [] (0) (0) (jn a0 h m)) hF (fun _ hj6 hF => v_lle [some (sr (some a0)), some (si (-1 : Int32)), some (si (x1 - (1 : Int32)))] ⟨rfl, rfl, rfl, trivial⟩ (lX11_goIn_14 a0 h m hj6 FU ((-1 : Int32), x1 - (1 : Int32)) hF)) (fun q2 hF => ?_)
  refine v_aload_n (pc := 65) (i := 0) dX11_goIn_65 rfl rfl ?_
  refine v_iload_n (pc := 66) (i := 1) dX11_goIn_66 rfl rfl ?_
  refine cp_S (pc := 67) gL (as := []) (st := [si q2, sr (some a0)]) (N := mX11_none) (k := 0) (n := 0) (k1 := 0) (n1 := 0) dX11_goIn_67 lkX11_340 caX11_none csX11_none rfl (fun Q1 hq => tX11_none (jn a0 h m) Q1 hq) ⟨by decide, by decide⟩ (Nat.le_of_ble_eq_true rfl) rfl hF (fun x3 hF => ?_)
  show gV G mX11_goIn 7 Q 70 [some (sr (some a0)), some (si q2), none] [sl x3, si q2, sr (some a0)] (0) (0) (jn a0 h m)
  refine chM_V (pc := 70) gU (as := [si q2, sl x3]) (st := []) (N := mX11_goOr) (k := 0) (n := 0) (k1 := 0) (n1 := 0) dX11_goIn_70 lkX11_336 caX11_goOr cvX11_goOr rfl rfl (fun Q1 hq => tX11_goOr a0 h q2 x3 m Q1 hq) ⟨by decide, by decide⟩ (Nat.le_of_ble_eq_true rfl) rfl hF (fun x4 m5 hF => ?_)
  show gV G mX11_goIn 7 Q 73 [some (sr (some a0)), some (si q2), none] [] (0) (0) (jn a0 h m5)
  exact v_ret (pc := 73) dX11_goIn_73 rfl (okr hF fun q => q)
