/-! ===== methods: their functions and rows ===== -/
theorem dX11_goRows_0 : decode cX11_goRows 0 = .ok (.aload_n 0, 1) := by decide +kernel
theorem dX11_goRows_1 : decode cX11_goRows 1 = .ok (.getfield 17, 3) := by decide +kernel
theorem dX11_goRows_4 : decode cX11_goRows 4 = .ok (.aload_n 0, 1) := by decide +kernel
theorem dX11_goRows_5 : decode cX11_goRows 5 = .ok (.getfield 128, 3) := by decide +kernel
theorem dX11_goRows_8 : decode cX11_goRows 8 = .ok (.iaload, 1) := by decide +kernel
theorem dX11_goRows_9 : decode cX11_goRows 9 = .ok (.istore_n 2, 1) := by decide +kernel
theorem dX11_goRows_10 : decode cX11_goRows 10 = .ok (.iload_n 2, 1) := by decide +kernel
theorem dX11_goRows_11 : decode cX11_goRows 11 = .ok (.iconst (-1), 1) := by decide +kernel
theorem dX11_goRows_12 : decode cX11_goRows 12 = .ok (.if_icmp .eq 14, 3) := by decide +kernel
theorem dX11_goRows_15 : decode cX11_goRows 15 = .ok (.aload_n 0, 1) := by decide +kernel
theorem dX11_goRows_16 : decode cX11_goRows 16 = .ok (.getfield 13, 3) := by decide +kernel
theorem dX11_goRows_19 : decode cX11_goRows 19 = .ok (.iload_n 2, 1) := by decide +kernel
theorem dX11_goRows_20 : decode cX11_goRows 20 = .ok (.iaload, 1) := by decide +kernel
theorem dX11_goRows_21 : decode cX11_goRows 21 = .ok (.bipush 6, 2) := by decide +kernel
theorem dX11_goRows_23 : decode cX11_goRows 23 = .ok (.if_icmp .eq 11, 3) := by decide +kernel
theorem dX11_goRows_26 : decode cX11_goRows 26 = .ok (.aload_n 0, 1) := by decide +kernel
theorem dX11_goRows_27 : decode cX11_goRows 27 = .ok (.invokestatic 340, 3) := by decide +kernel
theorem dX11_goRows_30 : decode cX11_goRows 30 = .ok (.invokevirtual 322, 3) := by decide +kernel
theorem dX11_goRows_33 : decode cX11_goRows 33 = .ok (.return_, 1) := by decide +kernel
theorem dX11_goRows_34 : decode cX11_goRows 34 = .ok (.aload_n 0, 1) := by decide +kernel
theorem dX11_goRows_35 : decode cX11_goRows 35 = .ok (.getfield 17, 3) := by decide +kernel
theorem dX11_goRows_38 : decode cX11_goRows 38 = .ok (.iload_n 2, 1) := by decide +kernel
theorem dX11_goRows_39 : decode cX11_goRows 39 = .ok (.iaload, 1) := by decide +kernel
theorem dX11_goRows_40 : decode cX11_goRows 40 = .ok (.istore_n 3, 1) := by decide +kernel
theorem dX11_goRows_41 : decode cX11_goRows 41 = .ok (.aload_n 0, 1) := by decide +kernel
theorem dX11_goRows_42 : decode cX11_goRows 42 = .ok (.aload_n 0, 1) := by decide +kernel
theorem dX11_goRows_43 : decode cX11_goRows 43 = .ok (.getfield 128, 3) := by decide +kernel
theorem dX11_goRows_46 : decode cX11_goRows 46 = .ok (.invokevirtual 302, 3) := by decide +kernel
theorem dX11_goRows_49 : decode cX11_goRows 49 = .ok (.istore 4, 2) := by decide +kernel
theorem dX11_goRows_51 : decode cX11_goRows 51 = .ok (.iconst (-1), 1) := by decide +kernel
theorem dX11_goRows_52 : decode cX11_goRows 52 = .ok (.istore 5, 2) := by decide +kernel
theorem dX11_goRows_54 : decode cX11_goRows 54 = .ok (.aload_n 0, 1) := by decide +kernel
theorem dX11_goRows_55 : decode cX11_goRows 55 = .ok (.iload_n 2, 1) := by decide +kernel
theorem dX11_goRows_56 : decode cX11_goRows 56 = .ok (.invokevirtual 302, 3) := by decide +kernel
theorem dX11_goRows_59 : decode cX11_goRows 59 = .ok (.iload_n 1, 1) := by decide +kernel
theorem dX11_goRows_60 : decode cX11_goRows 60 = .ok (.iadd, 1) := by decide +kernel
theorem dX11_goRows_61 : decode cX11_goRows 61 = .ok (.istore 6, 2) := by decide +kernel
theorem dX11_goRows_63 : decode cX11_goRows 63 = .ok (.iload 6, 2) := by decide +kernel
theorem dX11_goRows_65 : decode cX11_goRows 65 = .ok (.iconst 0, 1) := by decide +kernel
theorem dX11_goRows_66 : decode cX11_goRows 66 = .ok (.aload_n 0, 1) := by decide +kernel
theorem dX11_goRows_67 : decode cX11_goRows 67 = .ok (.getfield 23, 3) := by decide +kernel
theorem dX11_goRows_70 : decode cX11_goRows 70 = .ok (.iload_n 3, 1) := by decide +kernel
theorem dX11_goRows_71 : decode cX11_goRows 71 = .ok (.iaload, 1) := by decide +kernel
theorem dX11_goRows_72 : decode cX11_goRows 72 = .ok (.iconst 1, 1) := by decide +kernel
theorem dX11_goRows_73 : decode cX11_goRows 73 = .ok (.isub, 1) := by decide +kernel
theorem dX11_goRows_74 : decode cX11_goRows 74 = .ok (.invokestatic 114, 3) := by decide +kernel
theorem dX11_goRows_77 : decode cX11_goRows 77 = .ok (.ifCond .eq 106, 3) := by decide +kernel
theorem dX11_goRows_80 : decode cX11_goRows 80 = .ok (.iload 5, 2) := by decide +kernel
theorem dX11_goRows_82 : decode cX11_goRows 82 = .ok (.iconst (-1), 1) := by decide +kernel
theorem dX11_goRows_83 : decode cX11_goRows 83 = .ok (.if_icmp .ne 100, 3) := by decide +kernel
theorem dX11_goRows_86 : decode cX11_goRows 86 = .ok (.aload_n 0, 1) := by decide +kernel
theorem dX11_goRows_87 : decode cX11_goRows 87 = .ok (.getfield 20, 3) := by decide +kernel
theorem dX11_goRows_90 : decode cX11_goRows 90 = .ok (.bipush 10, 2) := by decide +kernel
theorem dX11_goRows_92 : decode cX11_goRows 92 = .ok (.iload_n 3, 1) := by decide +kernel
theorem dX11_goRows_93 : decode cX11_goRows 93 = .ok (.imul, 1) := by decide +kernel
theorem dX11_goRows_94 : decode cX11_goRows 94 = .ok (.iload 6, 2) := by decide +kernel
theorem dX11_goRows_96 : decode cX11_goRows 96 = .ok (.iadd, 1) := by decide +kernel
theorem dX11_goRows_97 : decode cX11_goRows 97 = .ok (.iaload, 1) := by decide +kernel
theorem dX11_goRows_98 : decode cX11_goRows 98 = .ok (.istore 7, 2) := by decide +kernel
theorem dX11_goRows_100 : decode cX11_goRows 100 = .ok (.aload_n 0, 1) := by decide +kernel
theorem dX11_goRows_101 : decode cX11_goRows 101 = .ok (.getfield 44, 3) := by decide +kernel
theorem dX11_goRows_104 : decode cX11_goRows 104 = .ok (.iload 7, 2) := by decide +kernel
theorem dX11_goRows_106 : decode cX11_goRows 106 = .ok (.baload, 1) := by decide +kernel
theorem dX11_goRows_107 : decode cX11_goRows 107 = .ok (.ifCond .ne 40, 3) := by decide +kernel
theorem dX11_goRows_110 : decode cX11_goRows 110 = .ok (.iload 4, 2) := by decide +kernel
theorem dX11_goRows_112 : decode cX11_goRows 112 = .ok (.aload_n 0, 1) := by decide +kernel
theorem dX11_goRows_113 : decode cX11_goRows 113 = .ok (.getfield 23, 3) := by decide +kernel
theorem dX11_goRows_116 : decode cX11_goRows 116 = .ok (.iload 7, 2) := by decide +kernel
theorem dX11_goRows_118 : decode cX11_goRows 118 = .ok (.iaload, 1) := by decide +kernel
theorem dX11_goRows_119 : decode cX11_goRows 119 = .ok (.if_icmp .ge 28, 3) := by decide +kernel
theorem dX11_goRows_122 : decode cX11_goRows 122 = .ok (.aload_n 0, 1) := by decide +kernel
theorem dX11_goRows_123 : decode cX11_goRows 123 = .ok (.getfield 44, 3) := by decide +kernel
theorem dX11_goRows_126 : decode cX11_goRows 126 = .ok (.aload_n 0, 1) := by decide +kernel
theorem dX11_goRows_127 : decode cX11_goRows 127 = .ok (.getfield 20, 3) := by decide +kernel
theorem dX11_goRows_130 : decode cX11_goRows 130 = .ok (.bipush 10, 2) := by decide +kernel
theorem dX11_goRows_132 : decode cX11_goRows 132 = .ok (.iload 7, 2) := by decide +kernel
theorem dX11_goRows_134 : decode cX11_goRows 134 = .ok (.imul, 1) := by decide +kernel
theorem dX11_goRows_135 : decode cX11_goRows 135 = .ok (.iload 4, 2) := by decide +kernel
theorem dX11_goRows_137 : decode cX11_goRows 137 = .ok (.iadd, 1) := by decide +kernel
theorem dX11_goRows_138 : decode cX11_goRows 138 = .ok (.iaload, 1) := by decide +kernel
theorem dX11_goRows_139 : decode cX11_goRows 139 = .ok (.baload, 1) := by decide +kernel
theorem dX11_goRows_140 : decode cX11_goRows 140 = .ok (.ifCond .ne 7, 3) := by decide +kernel
theorem dX11_goRows_143 : decode cX11_goRows 143 = .ok (.iconst 1, 1) := by decide +kernel
theorem dX11_goRows_144 : decode cX11_goRows 144 = .ok (.goto 4, 3) := by decide +kernel
theorem dX11_goRows_147 : decode cX11_goRows 147 = .ok (.iconst 0, 1) := by decide +kernel
theorem dX11_goRows_148 : decode cX11_goRows 148 = .ok (.istore 8, 2) := by decide +kernel
theorem dX11_goRows_150 : decode cX11_goRows 150 = .ok (.iload 8, 2) := by decide +kernel
theorem dX11_goRows_152 : decode cX11_goRows 152 = .ok (.ifCond .eq 19, 3) := by decide +kernel
theorem dX11_goRows_155 : decode cX11_goRows 155 = .ok (.aload_n 0, 1) := by decide +kernel
theorem dX11_goRows_156 : decode cX11_goRows 156 = .ok (.getfield 20, 3) := by decide +kernel
theorem dX11_goRows_159 : decode cX11_goRows 159 = .ok (.bipush 10, 2) := by decide +kernel
theorem dX11_goRows_161 : decode cX11_goRows 161 = .ok (.iload 7, 2) := by decide +kernel
theorem dX11_goRows_163 : decode cX11_goRows 163 = .ok (.imul, 1) := by decide +kernel
theorem dX11_goRows_164 : decode cX11_goRows 164 = .ok (.iload 4, 2) := by decide +kernel
theorem dX11_goRows_166 : decode cX11_goRows 166 = .ok (.iadd, 1) := by decide +kernel
theorem dX11_goRows_167 : decode cX11_goRows 167 = .ok (.iaload, 1) := by decide +kernel
theorem dX11_goRows_168 : decode cX11_goRows 168 = .ok (.goto 4, 3) := by decide +kernel
theorem dX11_goRows_171 : decode cX11_goRows 171 = .ok (.iconst (-1), 1) := by decide +kernel
theorem dX11_goRows_172 : decode cX11_goRows 172 = .ok (.istore 5, 2) := by decide +kernel
theorem dX11_goRows_174 : decode cX11_goRows 174 = .ok (.iload 6, 2) := by decide +kernel
theorem dX11_goRows_176 : decode cX11_goRows 176 = .ok (.iload_n 1, 1) := by decide +kernel
theorem dX11_goRows_177 : decode cX11_goRows 177 = .ok (.iadd, 1) := by decide +kernel
theorem dX11_goRows_178 : decode cX11_goRows 178 = .ok (.istore 6, 2) := by decide +kernel
theorem dX11_goRows_180 : decode cX11_goRows 180 = .ok (.goto (-117), 3) := by decide +kernel
theorem dX11_goRows_183 : decode cX11_goRows 183 = .ok (.aload_n 0, 1) := by decide +kernel
theorem dX11_goRows_184 : decode cX11_goRows 184 = .ok (.iload 5, 2) := by decide +kernel
theorem dX11_goRows_186 : decode cX11_goRows 186 = .ok (.invokestatic 332, 3) := by decide +kernel
theorem dX11_goRows_189 : decode cX11_goRows 189 = .ok (.invokevirtual 336, 3) := by decide +kernel
theorem dX11_goRows_192 : decode cX11_goRows 192 = .ok (.return_, 1) := by decide +kernel
theorem dX11_canFocus_0 : decode cX11_canFocus 0 = .ok (.iload_n 0, 1) := by decide +kernel
theorem dX11_canFocus_1 : decode cX11_canFocus 1 = .ok (.iconst 2, 1) := by decide +kernel
theorem dX11_canFocus_2 : decode cX11_canFocus 2 = .ok (.iconst 4, 1) := by decide +kernel
theorem dX11_canFocus_3 : decode cX11_canFocus 3 = .ok (.invokestatic 114, 3) := by decide +kernel
theorem dX11_canFocus_6 : decode cX11_canFocus 6 = .ok (.ireturn, 1) := by decide +kernel
theorem dX11_goTab_0 : decode cX11_goTab 0 = .ok (.aload_n 0, 1) := by decide +kernel
theorem dX11_goTab_1 : decode cX11_goTab 1 = .ok (.invokevirtual 328, 3) := by decide +kernel
theorem dX11_goTab_4 : decode cX11_goTab 4 = .ok (.istore_n 1, 1) := by decide +kernel
theorem dX11_goTab_5 : decode cX11_goTab 5 = .ok (.iconst (-1), 1) := by decide +kernel
theorem dX11_goTab_6 : decode cX11_goTab 6 = .ok (.istore_n 2, 1) := by decide +kernel
theorem dX11_goTab_7 : decode cX11_goTab 7 = .ok (.iconst 1, 1) := by decide +kernel
theorem dX11_goTab_8 : decode cX11_goTab 8 = .ok (.istore_n 3, 1) := by decide +kernel
theorem dX11_goTab_9 : decode cX11_goTab 9 = .ok (.iload_n 3, 1) := by decide +kernel
theorem dX11_goTab_10 : decode cX11_goTab 10 = .ok (.aload_n 0, 1) := by decide +kernel
theorem dX11_goTab_11 : decode cX11_goTab 11 = .ok (.getfield 122, 3) := by decide +kernel
theorem dX11_goTab_14 : decode cX11_goTab 14 = .ok (.if_icmp .gt 49, 3) := by decide +kernel
theorem dX11_goTab_17 : decode cX11_goTab 17 = .ok (.iload_n 2, 1) := by decide +kernel
theorem dX11_goTab_18 : decode cX11_goTab 18 = .ok (.iconst (-1), 1) := by decide +kernel
theorem dX11_goTab_19 : decode cX11_goTab 19 = .ok (.if_icmp .ne 44, 3) := by decide +kernel
theorem dX11_goTab_22 : decode cX11_goTab 22 = .ok (.aload_n 0, 1) := by decide +kernel
theorem dX11_goTab_23 : decode cX11_goTab 23 = .ok (.getfield 92, 3) := by decide +kernel
theorem dX11_goTab_26 : decode cX11_goTab 26 = .ok (.iload_n 1, 1) := by decide +kernel
theorem dX11_goTab_27 : decode cX11_goTab 27 = .ok (.iload_n 3, 1) := by decide +kernel
theorem dX11_goTab_28 : decode cX11_goTab 28 = .ok (.iadd, 1) := by decide +kernel
theorem dX11_goTab_29 : decode cX11_goTab 29 = .ok (.aload_n 0, 1) := by decide +kernel
theorem dX11_goTab_30 : decode cX11_goTab 30 = .ok (.getfield 122, 3) := by decide +kernel
theorem dX11_goTab_33 : decode cX11_goTab 33 = .ok (.irem, 1) := by decide +kernel
theorem dX11_goTab_34 : decode cX11_goTab 34 = .ok (.iaload, 1) := by decide +kernel
theorem dX11_goTab_35 : decode cX11_goTab 35 = .ok (.istore 4, 2) := by decide +kernel
theorem dX11_goTab_37 : decode cX11_goTab 37 = .ok (.aload_n 0, 1) := by decide +kernel
theorem dX11_goTab_38 : decode cX11_goTab 38 = .ok (.getfield 13, 3) := by decide +kernel
theorem dX11_goTab_41 : decode cX11_goTab 41 = .ok (.iload 4, 2) := by decide +kernel
theorem dX11_goTab_43 : decode cX11_goTab 43 = .ok (.iaload, 1) := by decide +kernel
theorem dX11_goTab_44 : decode cX11_goTab 44 = .ok (.invokestatic 343, 3) := by decide +kernel
theorem dX11_goTab_47 : decode cX11_goTab 47 = .ok (.ifCond .eq 8, 3) := by decide +kernel
theorem dX11_goTab_50 : decode cX11_goTab 50 = .ok (.iload 4, 2) := by decide +kernel
theorem dX11_goTab_52 : decode cX11_goTab 52 = .ok (.goto 4, 3) := by decide +kernel
theorem dX11_goTab_55 : decode cX11_goTab 55 = .ok (.iconst (-1), 1) := by decide +kernel
theorem dX11_goTab_56 : decode cX11_goTab 56 = .ok (.istore_n 2, 1) := by decide +kernel
theorem dX11_goTab_57 : decode cX11_goTab 57 = .ok (.iinc 3 1, 3) := by decide +kernel
theorem dX11_goTab_60 : decode cX11_goTab 60 = .ok (.goto (-51), 3) := by decide +kernel
theorem dX11_goTab_63 : decode cX11_goTab 63 = .ok (.aload_n 0, 1) := by decide +kernel
theorem dX11_goTab_64 : decode cX11_goTab 64 = .ok (.iload_n 2, 1) := by decide +kernel
theorem dX11_goTab_65 : decode cX11_goTab 65 = .ok (.iconst (-1), 1) := by decide +kernel
theorem dX11_goTab_66 : decode cX11_goTab 66 = .ok (.if_icmp .ne 10, 3) := by decide +kernel
theorem dX11_goTab_69 : decode cX11_goTab 69 = .ok (.aload_n 0, 1) := by decide +kernel
theorem dX11_goTab_70 : decode cX11_goTab 70 = .ok (.getfield 105, 3) := by decide +kernel
theorem dX11_goTab_73 : decode cX11_goTab 73 = .ok (.goto 4, 3) := by decide +kernel
theorem dX11_goTab_76 : decode cX11_goTab 76 = .ok (.iload_n 2, 1) := by decide +kernel
theorem dX11_goTab_77 : decode cX11_goTab 77 = .ok (.putfield 105, 3) := by decide +kernel
theorem dX11_goTab_80 : decode cX11_goTab 80 = .ok (.aload_n 0, 1) := by decide +kernel
theorem dX11_goTab_81 : decode cX11_goTab 81 = .ok (.iload_n 2, 1) := by decide +kernel
theorem dX11_goTab_82 : decode cX11_goTab 82 = .ok (.invokestatic 340, 3) := by decide +kernel
theorem dX11_goTab_85 : decode cX11_goTab 85 = .ok (.invokevirtual 336, 3) := by decide +kernel
theorem dX11_goTab_88 : decode cX11_goTab 88 = .ok (.return_, 1) := by decide +kernel
theorem dX11_act_0 : decode cX11_act 0 = .ok (.aload_n 0, 1) := by decide +kernel
theorem dX11_act_1 : decode cX11_act 1 = .ok (.getfield 13, 3) := by decide +kernel
theorem dX11_act_4 : decode cX11_act 4 = .ok (.aload_n 0, 1) := by decide +kernel
theorem dX11_act_5 : decode cX11_act 5 = .ok (.getfield 128, 3) := by decide +kernel
theorem dX11_act_8 : decode cX11_act 8 = .ok (.iaload, 1) := by decide +kernel
theorem dX11_act_9 : decode cX11_act 9 = .ok (.istore_n 1, 1) := by decide +kernel
theorem dX11_act_10 : decode cX11_act 10 = .ok (.iload_n 1, 1) := by decide +kernel
theorem dX11_act_11 : decode cX11_act 11 = .ok (.invokestatic 343, 3) := by decide +kernel
theorem dX11_act_14 : decode cX11_act 14 = .ok (.ifCond .ne 11, 3) := by decide +kernel
theorem dX11_act_17 : decode cX11_act 17 = .ok (.aload_n 0, 1) := by decide +kernel
theorem dX11_act_18 : decode cX11_act 18 = .ok (.invokestatic 340, 3) := by decide +kernel
theorem dX11_act_21 : decode cX11_act 21 = .ok (.invokevirtual 322, 3) := by decide +kernel
theorem dX11_act_24 : decode cX11_act 24 = .ok (.return_, 1) := by decide +kernel
theorem dX11_act_25 : decode cX11_act 25 = .ok (.aload_n 0, 1) := by decide +kernel
theorem dX11_act_26 : decode cX11_act 26 = .ok (.aload_n 0, 1) := by decide +kernel
theorem dX11_act_27 : decode cX11_act 27 = .ok (.getfield 128, 3) := by decide +kernel
theorem dX11_act_30 : decode cX11_act 30 = .ok (.putfield 105, 3) := by decide +kernel
theorem dX11_act_33 : decode cX11_act 33 = .ok (.aload_n 0, 1) := by decide +kernel
theorem dX11_act_34 : decode cX11_act 34 = .ok (.iconst 0, 1) := by decide +kernel
theorem dX11_act_35 : decode cX11_act 35 = .ok (.putfield 143, 3) := by decide +kernel
theorem dX11_act_38 : decode cX11_act 38 = .ok (.iload_n 1, 1) := by decide +kernel
theorem dX11_act_39 : decode cX11_act 39 = .ok (.iconst 2, 1) := by decide +kernel
theorem dX11_act_40 : decode cX11_act 40 = .ok (.if_icmp .ne 40, 3) := by decide +kernel
theorem dX11_act_43 : decode cX11_act 43 = .ok (.aload_n 0, 1) := by decide +kernel
theorem dX11_act_44 : decode cX11_act 44 = .ok (.getfield 41, 3) := by decide +kernel
theorem dX11_act_47 : decode cX11_act 47 = .ok (.aload_n 0, 1) := by decide +kernel
theorem dX11_act_48 : decode cX11_act 48 = .ok (.getfield 128, 3) := by decide +kernel
theorem dX11_act_51 : decode cX11_act 51 = .ok (.dup2, 1) := by decide +kernel
theorem dX11_act_52 : decode cX11_act 52 = .ok (.iaload, 1) := by decide +kernel
theorem dX11_act_53 : decode cX11_act 53 = .ok (.iconst 1, 1) := by decide +kernel
theorem dX11_act_54 : decode cX11_act 54 = .ok (.iadd, 1) := by decide +kernel
theorem dX11_act_55 : decode cX11_act 55 = .ok (.iastore, 1) := by decide +kernel
theorem dX11_act_56 : decode cX11_act 56 = .ok (.aload_n 0, 1) := by decide +kernel
theorem dX11_act_57 : decode cX11_act 57 = .ok (.bipush 112, 2) := by decide +kernel
theorem dX11_act_59 : decode cX11_act 59 = .ok (.bipush 114, 2) := by decide +kernel
theorem dX11_act_61 : decode cX11_act 61 = .ok (.bipush 101, 2) := by decide +kernel
theorem dX11_act_63 : decode cX11_act 63 = .ok (.bipush 115, 2) := by decide +kernel
theorem dX11_act_65 : decode cX11_act 65 = .ok (.bipush 115, 2) := by decide +kernel
theorem dX11_act_67 : decode cX11_act 67 = .ok (.bipush 101, 2) := by decide +kernel
theorem dX11_act_69 : decode cX11_act 69 = .ok (.bipush 100, 2) := by decide +kernel
theorem dX11_act_71 : decode cX11_act 71 = .ok (.invokestatic 133, 3) := by decide +kernel
theorem dX11_act_74 : decode cX11_act 74 = .ok (.invokevirtual 160, 3) := by decide +kernel
theorem dX11_act_77 : decode cX11_act 77 = .ok (.goto 83, 3) := by decide +kernel
theorem dX11_act_80 : decode cX11_act 80 = .ok (.iload_n 1, 1) := by decide +kernel
theorem dX11_act_81 : decode cX11_act 81 = .ok (.iconst 3, 1) := by decide +kernel
theorem dX11_act_82 : decode cX11_act 82 = .ok (.if_icmp .ne 45, 3) := by decide +kernel
theorem dX11_act_85 : decode cX11_act 85 = .ok (.aload_n 0, 1) := by decide +kernel
theorem dX11_act_86 : decode cX11_act 86 = .ok (.getfield 38, 3) := by decide +kernel
theorem dX11_act_89 : decode cX11_act 89 = .ok (.aload_n 0, 1) := by decide +kernel
theorem dX11_act_90 : decode cX11_act 90 = .ok (.getfield 128, 3) := by decide +kernel
theorem dX11_act_93 : decode cX11_act 93 = .ok (.aload_n 0, 1) := by decide +kernel
theorem dX11_act_94 : decode cX11_act 94 = .ok (.getfield 38, 3) := by decide +kernel
theorem dX11_act_97 : decode cX11_act 97 = .ok (.aload_n 0, 1) := by decide +kernel
theorem dX11_act_98 : decode cX11_act 98 = .ok (.getfield 128, 3) := by decide +kernel
theorem dX11_act_101 : decode cX11_act 101 = .ok (.baload, 1) := by decide +kernel
theorem dX11_act_102 : decode cX11_act 102 = .ok (.ifCond .ne 7, 3) := by decide +kernel
theorem dX11_act_105 : decode cX11_act 105 = .ok (.iconst 1, 1) := by decide +kernel
theorem dX11_act_106 : decode cX11_act 106 = .ok (.goto 4, 3) := by decide +kernel
theorem dX11_act_109 : decode cX11_act 109 = .ok (.iconst 0, 1) := by decide +kernel
theorem dX11_act_110 : decode cX11_act 110 = .ok (.bastore, 1) := by decide +kernel
theorem dX11_act_111 : decode cX11_act 111 = .ok (.aload_n 0, 1) := by decide +kernel
theorem dX11_act_112 : decode cX11_act 112 = .ok (.aload_n 0, 1) := by decide +kernel
theorem dX11_act_113 : decode cX11_act 113 = .ok (.getfield 38, 3) := by decide +kernel
theorem dX11_act_116 : decode cX11_act 116 = .ok (.aload_n 0, 1) := by decide +kernel
theorem dX11_act_117 : decode cX11_act 117 = .ok (.getfield 128, 3) := by decide +kernel
theorem dX11_act_120 : decode cX11_act 120 = .ok (.baload, 1) := by decide +kernel
theorem dX11_act_121 : decode cX11_act 121 = .ok (.invokevirtual 171, 3) := by decide +kernel
theorem dX11_act_124 : decode cX11_act 124 = .ok (.goto 36, 3) := by decide +kernel
theorem dX11_act_127 : decode cX11_act 127 = .ok (.aload_n 0, 1) := by decide +kernel
theorem dX11_act_128 : decode cX11_act 128 = .ok (.iconst 1, 1) := by decide +kernel
theorem dX11_act_129 : decode cX11_act 129 = .ok (.putfield 267, 3) := by decide +kernel
theorem dX11_act_132 : decode cX11_act 132 = .ok (.aload_n 0, 1) := by decide +kernel
theorem dX11_act_133 : decode cX11_act 133 = .ok (.iconst 0, 1) := by decide +kernel
theorem dX11_act_134 : decode cX11_act 134 = .ok (.putfield 346, 3) := by decide +kernel
theorem dX11_act_137 : decode cX11_act 137 = .ok (.aload_n 0, 1) := by decide +kernel
theorem dX11_act_138 : decode cX11_act 138 = .ok (.iconst 0, 1) := by decide +kernel
theorem dX11_act_139 : decode cX11_act 139 = .ok (.putfield 349, 3) := by decide +kernel
theorem dX11_act_142 : decode cX11_act 142 = .ok (.aload_n 0, 1) := by decide +kernel
theorem dX11_act_143 : decode cX11_act 143 = .ok (.iconst 0, 1) := by decide +kernel
theorem dX11_act_144 : decode cX11_act 144 = .ok (.iconst 0, 1) := by decide +kernel
theorem dX11_act_145 : decode cX11_act 145 = .ok (.iconst 0, 1) := by decide +kernel
theorem dX11_act_146 : decode cX11_act 146 = .ok (.bipush 116, 2) := by decide +kernel
theorem dX11_act_148 : decode cX11_act 148 = .ok (.bipush 121, 2) := by decide +kernel
theorem dX11_act_150 : decode cX11_act 150 = .ok (.bipush 112, 2) := by decide +kernel
theorem dX11_act_152 : decode cX11_act 152 = .ok (.bipush 101, 2) := by decide +kernel
theorem dX11_act_154 : decode cX11_act 154 = .ok (.invokestatic 133, 3) := by decide +kernel
theorem dX11_act_157 : decode cX11_act 157 = .ok (.invokevirtual 160, 3) := by decide +kernel
theorem dX11_act_160 : decode cX11_act 160 = .ok (.aload_n 0, 1) := by decide +kernel
theorem dX11_act_161 : decode cX11_act 161 = .ok (.invokevirtual 203, 3) := by decide +kernel
theorem dX11_act_164 : decode cX11_act 164 = .ok (.return_, 1) := by decide +kernel
abbrev mX11_goRows : gM := (yX11_goRows, cX11_goRows, 9, (Option.none : Option FieldType), [])
theorem caX11_goRows : cal mX11_goRows 1 := ⟨xw 1890 (by decide +kernel) rfl, xw 102 (by decide +kernel) rfl, by decide, by decide +kernel⟩
theorem cvX11_goRows : calV mX11_goRows := ⟨xw 1889 (by decide +kernel) rfl, xw 72 (by decide +kernel) rfl⟩
abbrev mX11_canFocus : gM := (yX11_canFocus, cX11_canFocus, 1, (Option.some FieldType.boolean), [])
theorem caX11_canFocus : cal mX11_canFocus 1 := ⟨xw 1897 (by decide +kernel) rfl, xw 102 (by decide +kernel) rfl, by decide, by decide +kernel⟩
theorem csX11_canFocus : Cond.static yX11_canFocus ∈ XW := xw 1896 (by decide +kernel) rfl
abbrev mX11_goTab : gM := (yX11_goTab, cX11_goTab, 5, (Option.none : Option FieldType), [])
theorem caX11_goTab : cal mX11_goTab 0 := ⟨xw 1894 (by decide +kernel) rfl, xw 102 (by decide +kernel) rfl, by decide, by decide +kernel⟩
theorem cvX11_goTab : calV mX11_goTab := ⟨xw 1893 (by decide +kernel) rfl, xw 73 (by decide +kernel) rfl⟩
abbrev mX11_act : gM := (yX11_act, cX11_act, 2, (Option.none : Option FieldType), [])
theorem caX11_act : cal mX11_act 0 := ⟨xw 1901 (by decide +kernel) rfl, xw 102 (by decide +kernel) rfl, by decide, by decide +kernel⟩
theorem cvX11_act : calV mX11_act := ⟨xw 1900 (by decide +kernel) rfl, xw 74 (by decide +kernel) rfl⟩
theorem lkX11_343 : Cond.methodLink RX11 343 yX11_canFocus ∈ XW := xw 1895 (by decide +kernel) rfl
theorem flX11_346 : fl RX11 346 10 23 := ⟨by decide, by decide, xw 1420 (by decide +kernel) rfl⟩
theorem flX11_349 : fl RX11 349 10 24 := ⟨by decide, by decide, xw 1421 (by decide +kernel) rfl⟩
/-! BrailleDeskModel.goRows -/
theorem lX11_goRows_63 {G : gG} {Q : hQ} {P : Int32 → Prop} {k n : Nat} (a0 : Nat) (h : hp) (c1 : Int32) (c3 : Int32) (c4 : Int32) (m : mm) (hJ : ∀ q : Int32, P q → gV G mX11_goRows 7 Q 183 [some (sr (some a0)), none, none, none, none, some (si q), none, none, none] [] (k) (n) (jn a0 h m)) : ∀ (fu : Nat) (a : (Int32 × Int32)), okB (itr (fX11_goRows_B63 c1 c3 c4 m) fu a) P → gV G mX11_goRows 7 Q 63 [some (sr (some a0)), some (si c1), none, some (si c3), some (si c4), some (si a.1), some (si a.2), none, none] [] (k) (n) (jn a0 h m) :=
  lpg (X := fun (a : (Int32 × Int32)) => gV G mX11_goRows 7 Q 63 [some (sr (some a0)), some (si c1), none, some (si c3), some (si c4), some (si a.1), some (si a.2), none, none] [] (k) (n) (jn a0 h m)) (fun a P2 hL hE hF => by
    delta fX11_goRows_B63 at hF
    refine v_iload (pc := 63) (i := 6) dX11_goRows_63 rfl ?_
    refine v_iconst (pc := 65) (v := (0 : Int32)) dX11_goRows_65 rfl ?_
    refine v_aload_n (pc := 66) (i := 0) dX11_goRows_66 rfl rfl ?_
    refine m_getA (pc := 67) (j := 5) dX11_goRows_67 flX11_23 rfl (by decide) ?_
    refine v_iload_n (pc := 70) (i := 3) dX11_goRows_70 rfl rfl ?_
    refine m_iald (pc := 71) (j := 5) dX11_goRows_71 hF (fun x1 hF => ?_)
    refine v_iconst (pc := 72) (v := (1 : Int32)) dX11_goRows_72 rfl ?_
    refine v_isub (pc := 73) dX11_goRows_73 ?_
    refine cp_S (pc := 74) gI (as := [si a.2, si (0 : Int32), si (x1 - (1 : Int32))]) (st := []) (N := mX11_in) (k := k) (n := n) (k1 := 0) (n1 := 0) dX11_goRows_74 lkX11_114 caX11_in csX11_in rfl (fun Q1 hq => tX11_in a.2 (0 : Int32) (x1 - (1 : Int32)) (jn a0 h m) Q1 hq) ⟨by decide, by decide⟩ (Nat.le_of_ble_eq_true rfl) rfl hF (fun x2 hF => ?_)
    show gV G mX11_goRows 7 Q 77 [some (sr (some a0)), some (si c1), none, some (si c3), some (si c4), some (si a.1), some (si a.2), none, none] [si x2] (k) (n) (jn a0 h m)
    refine v_if_eq (pc := 77) 183 dX11_goRows_77 rfl (fun hc => ?_) (fun hc => ?_)
    · replace hF := (okB_if hF).1 hc
      exact v_lle [some (sr (some a0)), none, none, none, none, some (si a.1), none, none, none] ⟨rfl, rfl, trivial⟩ (hJ a.1 (hE _ (okB_some hF)))
    replace hF := (okB_if hF).2 hc
    refine v_iload (pc := 80) (i := 5) dX11_goRows_80 rfl ?_
    refine v_iconst (pc := 82) (v := (-1 : Int32)) dX11_goRows_82 rfl ?_
    refine v_icmp_ne (pc := 83) 183 dX11_goRows_83 rfl (fun hc => ?_) (fun hc => ?_)
    · replace hF := (okB_if hF).2 hc
      exact v_lle [some (sr (some a0)), none, none, none, none, some (si a.1), none, none, none] ⟨rfl, rfl, trivial⟩ (hJ a.1 (hE _ (okB_some hF)))
    replace hF := (okB_if hF).1 hc
    refine v_aload_n (pc := 86) (i := 0) dX11_goRows_86 rfl rfl ?_
    refine m_getA (pc := 87) (j := 4) dX11_goRows_87 flX11_20 rfl (by decide) ?_
    refine v_bipush (pc := 90) (v := (10 : Int32)) dX11_goRows_90 rfl ?_
    refine v_iload_n (pc := 92) (i := 3) dX11_goRows_92 rfl rfl ?_
    refine v_imul (pc := 93) dX11_goRows_93 ?_
    refine v_iload (pc := 94) (i := 6) dX11_goRows_94 rfl ?_
    refine v_iadd (pc := 96) dX11_goRows_96 ?_
    refine m_iald (pc := 97) (j := 4) dX11_goRows_97 hF (fun x3 hF => ?_)
    refine v_istore (pc := 98) (i := 7) [some (sr (some a0)), some (si c1), none, some (si c3), some (si c4), some (si a.1), some (si a.2), some (si x3), none] dX11_goRows_98 (by decide) rfl rfl ?_
    refine v_aload_n (pc := 100) (i := 0) dX11_goRows_100 rfl rfl ?_
    refine m_getA (pc := 101) (j := 12) dX11_goRows_101 flX11_44 rfl (by decide) ?_
    refine v_iload (pc := 104) (i := 7) dX11_goRows_104 rfl ?_
    refine m_zald (pc := 106) (j := 12) dX11_goRows_106 hF (fun x4 hF => ?_)
    refine mg (X := fun q5 => gV G mX11_goRows 7 Q 148 [some (sr (some a0)), some (si c1), none, some (si c3), some (si c4), none, some (si a.2), some (si x3), none] [si q5] (k) (n) (jn a0 h m)) hF (fun _ hj6 hF => ?_) (fun q5 hF => ?_)
    · refine v_if_ne (pc := 107) 147 dX11_goRows_107 rfl (fun hc => ?_) (fun hc => ?_)
      · replace hF := (okB_if hF).2 hc
        refine v_iconst (pc := 147) (v := (0 : Int32)) dX11_goRows_147 rfl ?_
        exact v_lle [some (sr (some a0)), some (si c1), none, some (si c3), some (si c4), none, some (si a.2), some (si x3), none] ⟨rfl, rfl, rfl, rfl, rfl, rfl, trivial⟩ (hj6 (0 : Int32) (okB_some hF))
      replace hF := (okB_if hF).1 hc
      refine v_iload (pc := 110) (i := 4) dX11_goRows_110 rfl ?_
      refine v_aload_n (pc := 112) (i := 0) dX11_goRows_112 rfl rfl ?_
      refine m_getA (pc := 113) (j := 5) dX11_goRows_113 flX11_23 rfl (by decide) ?_
      refine v_iload (pc := 116) (i := 7) dX11_goRows_116 rfl ?_
      refine m_iald (pc := 118) (j := 5) dX11_goRows_118 hF (fun x7 hF => ?_)
      refine v_icmp_ge (pc := 119) 147 dX11_goRows_119 rfl (fun hc => ?_) (fun hc => ?_)
      · replace hF := (okB_if hF).1 hc
        refine v_iconst (pc := 147) (v := (0 : Int32)) dX11_goRows_147 rfl ?_
        exact v_lle [some (sr (some a0)), some (si c1), none, some (si c3), some (si c4), none, some (si a.2), some (si x3), none] ⟨rfl, rfl, rfl, rfl, rfl, rfl, trivial⟩ (hj6 (0 : Int32) (okB_some hF))
      replace hF := (okB_if hF).2 hc
      refine v_aload_n (pc := 122) (i := 0) dX11_goRows_122 rfl rfl ?_
      refine m_getA (pc := 123) (j := 12) dX11_goRows_123 flX11_44 rfl (by decide) ?_
      refine v_aload_n (pc := 126) (i := 0) dX11_goRows_126 rfl rfl ?_
      refine m_getA (pc := 127) (j := 4) dX11_goRows_127 flX11_20 rfl (by decide) ?_
      refine v_bipush (pc := 130) (v := (10 : Int32)) dX11_goRows_130 rfl ?_
      refine v_iload (pc := 132) (i := 7) dX11_goRows_132 rfl ?_
      refine v_imul (pc := 134) dX11_goRows_134 ?_
      refine v_iload (pc := 135) (i := 4) dX11_goRows_135 rfl ?_
      refine v_iadd (pc := 137) dX11_goRows_137 ?_
      refine m_iald (pc := 138) (j := 4) dX11_goRows_138 hF (fun x8 hF => ?_)
      refine m_zald (pc := 139) (j := 12) dX11_goRows_139 hF (fun x9 hF => ?_)
      refine v_if_ne (pc := 140) 147 dX11_goRows_140 rfl (fun hc => ?_) (fun hc => ?_)
      · replace hF := (okB_if hF).2 hc
        refine v_iconst (pc := 147) (v := (0 : Int32)) dX11_goRows_147 rfl ?_
        exact v_lle [some (sr (some a0)), some (si c1), none, some (si c3), some (si c4), none, some (si a.2), some (si x3), none] ⟨rfl, rfl, rfl, rfl, rfl, rfl, trivial⟩ (hj6 (0 : Int32) (okB_some hF))
      replace hF := (okB_if hF).1 hc
      refine v_iconst (pc := 143) (v := (1 : Int32)) dX11_goRows_143 rfl ?_
      refine v_goto (pc := 144) 148 dX11_goRows_144 rfl ?_
      exact v_lle [some (sr (some a0)), some (si c1), none, some (si c3), some (si c4), none, some (si a.2), some (si x3), none] ⟨rfl, rfl, rfl, rfl, rfl, rfl, trivial⟩ (hj6 (1 : Int32) (okB_some hF))
    refine v_istore (pc := 148) (i := 8) [some (sr (some a0)), some (si c1), none, some (si c3), some (si c4), none, some (si a.2), some (si x3), some (si q5)] dX11_goRows_148 (by decide) rfl rfl ?_
    refine v_iload (pc := 150) (i := 8) dX11_goRows_150 rfl ?_
    refine v_if_eq (pc := 152) 171 dX11_goRows_152 rfl (fun hc => ?_) (fun hc => ?_)
    · replace hF := (okB_if hF).1 hc
      refine v_iconst (pc := 171) (v := (-1 : Int32)) dX11_goRows_171 rfl ?_
      refine v_istore (pc := 172) (i := 5) [some (sr (some a0)), some (si c1), none, some (si c3), some (si c4), some (si (-1 : Int32)), some (si a.2), some (si x3), some (si q5)] dX11_goRows_172 (by decide) rfl rfl ?_
      refine v_iload (pc := 174) (i := 6) dX11_goRows_174 rfl ?_
      refine v_iload_n (pc := 176) (i := 1) dX11_goRows_176 rfl rfl ?_
      refine v_iadd (pc := 177) dX11_goRows_177 ?_
      refine v_istore (pc := 178) (i := 6) [some (sr (some a0)), some (si c1), none, some (si c3), some (si c4), some (si (-1 : Int32)), some (si (a.2 + c1)), some (si x3), some (si q5)] dX11_goRows_178 (by decide) rfl rfl ?_
      refine v_goto (pc := 180) 63 dX11_goRows_180 rfl ?_
      exact v_lle [some (sr (some a0)), some (si c1), none, some (si c3), some (si c4), some (si (-1 : Int32)), some (si (a.2 + c1)), none, none] ⟨rfl, rfl, rfl, rfl, rfl, rfl, trivial⟩ (hL ((-1 : Int32), a.2 + c1) (okB_some hF))
    replace hF := (okB_if hF).2 hc
    refine v_aload_n (pc := 155) (i := 0) dX11_goRows_155 rfl rfl ?_
    refine m_getA (pc := 156) (j := 4) dX11_goRows_156 flX11_20 rfl (by decide) ?_
    refine v_bipush (pc := 159) (v := (10 : Int32)) dX11_goRows_159 rfl ?_
    refine v_iload (pc := 161) (i := 7) dX11_goRows_161 rfl ?_
    refine v_imul (pc := 163) dX11_goRows_163 ?_
    refine v_iload (pc := 164) (i := 4) dX11_goRows_164 rfl ?_
    refine v_iadd (pc := 166) dX11_goRows_166 ?_
    refine m_iald (pc := 167) (j := 4) dX11_goRows_167 hF (fun x10 hF => ?_)
    refine v_goto (pc := 168) 172 dX11_goRows_168 rfl ?_
    refine v_istore (pc := 172) (i := 5) [some (sr (some a0)), some (si c1), none, some (si c3), some (si c4), some (si x10), some (si a.2), some (si x3), some (si q5)] dX11_goRows_172 (by decide) rfl rfl ?_
    refine v_iload (pc := 174) (i := 6) dX11_goRows_174 rfl ?_
    refine v_iload_n (pc := 176) (i := 1) dX11_goRows_176 rfl rfl ?_
    refine v_iadd (pc := 177) dX11_goRows_177 ?_
    refine v_istore (pc := 178) (i := 6) [some (sr (some a0)), some (si c1), none, some (si c3), some (si c4), some (si x10), some (si (a.2 + c1)), some (si x3), some (si q5)] dX11_goRows_178 (by decide) rfl rfl ?_
    refine v_goto (pc := 180) 63 dX11_goRows_180 rfl ?_
    exact v_lle [some (sr (some a0)), some (si c1), none, some (si c3), some (si c4), some (si x10), some (si (a.2 + c1)), none, none] ⟨rfl, rfl, rfl, rfl, rfl, rfl, trivial⟩ (hL (x10, a.2 + c1) (okB_some hF)))
theorem tX11_goRows {G : gG} (a0 : Nat) (h : hp) (a1 : Int32) (m : mm) (Q : hQ) (hF : okB (fX11_goRows a1 m) (pM gU Q a0 h)) : gS G mX11_goRows 7 0 0 [sr (some a0), si a1] (jn a0 h m) Q := by
  delta fX11_goRows at hF
  refine gS_at [some (sr (some a0)), some (si a1), none, none, none, none, none, none, none] pl_X11 rfl (Nat.le_of_ble_eq_true rfl) rfl ?_
  refine v_aload_n (pc := 0) (i := 0) dX11_goRows_0 rfl rfl ?_
  refine m_getA (pc := 1) (j := 3) dX11_goRows_1 flX11_17 rfl (by decide) ?_
  refine v_aload_n (pc := 4) (i := 0) dX11_goRows_4 rfl rfl ?_
  refine m_getI (pc := 5) (j := 20) dX11_goRows_5 flX11_128 rfl rfl ?_
  refine m_iald (pc := 8) (j := 3) dX11_goRows_8 hF (fun x1 hF => ?_)
  refine v_istore_n (pc := 9) (i := 2) [some (sr (some a0)), some (si a1), some (si x1), none, none, none, none, none, none] dX11_goRows_9 rfl (by decide) rfl rfl ?_
  refine v_iload_n (pc := 10) (i := 2) dX11_goRows_10 rfl rfl ?_
  refine v_iconst (pc := 11) (v := (-1 : Int32)) dX11_goRows_11 rfl ?_
  refine mgR (X := fun q2 => gV G mX11_goRows 7 Q 26 [some (sr (some a0)), none, none, none, none, none, none, none, none] [] (0) (0) (jn a0 h m)) hF (fun _ hj3 hr3 hF => ?_) (fun q2 hF => ?_)
  · refine v_icmp_eq (pc := 12) 26 dX11_goRows_12 rfl (fun hc => ?_) (fun hc => ?_)
    · replace hF := (okB_if hF).1 hc
      exact v_lle [some (sr (some a0)), none, none, none, none, none, none, none, none] ⟨rfl, trivial⟩ (hj3 () (okB_some hF))
    replace hF := (okB_if hF).2 hc
    refine v_aload_n (pc := 15) (i := 0) dX11_goRows_15 rfl rfl ?_
    refine m_getA (pc := 16) (j := 2) dX11_goRows_16 flX11_13 rfl (by decide) ?_
    refine v_iload_n (pc := 19) (i := 2) dX11_goRows_19 rfl rfl ?_
    refine m_iald (pc := 20) (j := 2) dX11_goRows_20 hF (fun x4 hF => ?_)
    refine v_bipush (pc := 21) (v := (6 : Int32)) dX11_goRows_21 rfl ?_
    refine v_icmp_eq (pc := 23) 34 dX11_goRows_23 rfl (fun hc => ?_) (fun hc => ?_)
    · replace hF := (okB_if hF).1 hc
      refine v_aload_n (pc := 34) (i := 0) dX11_goRows_34 rfl rfl ?_
      refine m_getA (pc := 35) (j := 3) dX11_goRows_35 flX11_17 rfl (by decide) ?_
      refine v_iload_n (pc := 38) (i := 2) dX11_goRows_38 rfl rfl ?_
      refine m_iald (pc := 39) (j := 3) dX11_goRows_39 hF (fun x5 hF => ?_)
      refine v_istore_n (pc := 40) (i := 3) [some (sr (some a0)), some (si a1), some (si x1), some (si x5), none, none, none, none, none] dX11_goRows_40 rfl (by decide) rfl rfl ?_
      refine v_aload_n (pc := 41) (i := 0) dX11_goRows_41 rfl rfl ?_
      refine v_aload_n (pc := 42) (i := 0) dX11_goRows_42 rfl rfl ?_
      refine m_getI (pc := 43) (j := 20) dX11_goRows_43 flX11_128 rfl rfl ?_
      refine cpM_V (pc := 46) gI (as := [si (m 20 0)]) (st := []) (N := mX11_placeOf) (k := 0) (n := 0) (k1 := 0) (n1 := 0) dX11_goRows_46 lkX11_302 caX11_placeOf cvX11_placeOf rfl rfl (fun Q1 hq => tX11_placeOf a0 h (m 20 0) m Q1 hq) ⟨by decide, by decide⟩ (Nat.le_of_ble_eq_true rfl) rfl hF (fun x6 hF => ?_)
      show gV G mX11_goRows 7 Q 49 [some (sr (some a0)), some (si a1), some (si x1), some (si x5), none, none, none, none, none] [si x6] (0) (0) (jn a0 h m)
      refine v_istore (pc := 49) (i := 4) [some (sr (some a0)), some (si a1), some (si x1), some (si x5), some (si x6), none, none, none, none] dX11_goRows_49 (by decide) rfl rfl ?_
      refine v_iconst (pc := 51) (v := (-1 : Int32)) dX11_goRows_51 rfl ?_
      refine v_istore (pc := 52) (i := 5) [some (sr (some a0)), some (si a1), some (si x1), some (si x5), some (si x6), some (si (-1 : Int32)), none, none, none] dX11_goRows_52 (by decide) rfl rfl ?_
      refine v_aload_n (pc := 54) (i := 0) dX11_goRows_54 rfl rfl ?_
      refine v_iload_n (pc := 55) (i := 2) dX11_goRows_55 rfl rfl ?_
      refine cpM_V (pc := 56) gI (as := [si x1]) (st := []) (N := mX11_placeOf) (k := 0) (n := 0) (k1 := 0) (n1 := 0) dX11_goRows_56 lkX11_302 caX11_placeOf cvX11_placeOf rfl rfl (fun Q1 hq => tX11_placeOf a0 h x1 m Q1 hq) ⟨by decide, by decide⟩ (Nat.le_of_ble_eq_true rfl) rfl hF (fun x7 hF => ?_)
      show gV G mX11_goRows 7 Q 59 [some (sr (some a0)), some (si a1), some (si x1), some (si x5), some (si x6), some (si (-1 : Int32)), none, none, none] [si x7] (0) (0) (jn a0 h m)
      refine v_iload_n (pc := 59) (i := 1) dX11_goRows_59 rfl rfl ?_
      refine v_iadd (pc := 60) dX11_goRows_60 ?_
      refine v_istore (pc := 61) (i := 6) [some (sr (some a0)), some (si a1), some (si x1), some (si x5), some (si x6), some (si (-1 : Int32)), some (si (x7 + a1)), none, none] dX11_goRows_61 (by decide) rfl rfl ?_
      refine mg (X := fun q8 => gV G mX11_goRows 7 Q 183 [some (sr (some a0)), none, none, none, none, some (si q8), none, none, none] [] (0) (0) (jn a0 h m)) hF (fun _ hj12 hF => v_lle [some (sr (some a0)), some (si a1), none, some (si x5), some (si x6), some (si (-1 : Int32)), some (si (x7 + a1)), none, none] ⟨rfl, rfl, rfl, rfl, rfl, rfl, trivial⟩ (lX11_goRows_63 a0 h a1 x5 x6 m hj12 FU ((-1 : Int32), x7 + a1) hF)) (fun q8 hF => ?_)
      refine v_aload_n (pc := 183) (i := 0) dX11_goRows_183 rfl rfl ?_
      refine v_iload (pc := 184) (i := 5) dX11_goRows_184 rfl ?_
      refine cp_S (pc := 186) gL (as := []) (st := [si q8, sr (some a0)]) (N := mX11_end) (k := 0) (n := 0) (k1 := 0) (n1 := 0) dX11_goRows_186 lkX11_332 caX11_end csX11_end rfl (fun Q1 hq => tX11_end (jn a0 h m) Q1 hq) ⟨by decide, by decide⟩ (Nat.le_of_ble_eq_true rfl) rfl hF (fun x9 hF => ?_)
      show gV G mX11_goRows 7 Q 189 [some (sr (some a0)), none, none, none, none, some (si q8), none, none, none] [sl x9, si q8, sr (some a0)] (0) (0) (jn a0 h m)
      refine chM_V (pc := 189) gU (as := [si q8, sl x9]) (st := []) (N := mX11_goOr) (k := 0) (n := 0) (k1 := 0) (n1 := 0) dX11_goRows_189 lkX11_336 caX11_goOr cvX11_goOr rfl rfl (fun Q1 hq => tX11_goOr a0 h q8 x9 m Q1 hq) ⟨by decide, by decide⟩ (Nat.le_of_ble_eq_true rfl) rfl hF (fun x10 m11 hF => ?_)
      show gV G mX11_goRows 7 Q 192 [some (sr (some a0)), none, none, none, none, some (si q8), none, none, none] [] (0) (0) (jn a0 h m11)
      exact v_ret (pc := 192) dX11_goRows_192 rfl (hr3 _ (okB_some hF))
    replace hF := (okB_if hF).2 hc
    exact v_lle [some (sr (some a0)), none, none, none, none, none, none, none, none] ⟨rfl, trivial⟩ (hj3 () (okB_some hF))
  refine v_aload_n (pc := 26) (i := 0) dX11_goRows_26 rfl rfl ?_
  refine cp_S (pc := 27) gL (as := []) (st := [sr (some a0)]) (N := mX11_none) (k := 0) (n := 0) (k1 := 0) (n1 := 0) dX11_goRows_27 lkX11_340 caX11_none csX11_none rfl (fun Q1 hq => tX11_none (jn a0 h m) Q1 hq) ⟨by decide, by decide⟩ (Nat.le_of_ble_eq_true rfl) rfl hF (fun x13 hF => ?_)
  show gV G mX11_goRows 7 Q 30 [some (sr (some a0)), none, none, none, none, none, none, none, none] [sl x13, sr (some a0)] (0) (0) (jn a0 h m)
  refine chM_V (pc := 30) gU (as := [sl x13]) (st := []) (N := mX11_say) (k := 0) (n := 0) (k1 := 0) (n1 := 0) dX11_goRows_30 lkX11_322 caX11_say cvX11_say rfl rfl (fun Q1 hq => tX11_say a0 h x13 m Q1 hq) ⟨by decide, by decide⟩ (Nat.le_of_ble_eq_true rfl) rfl hF (fun x14 m15 hF => ?_)
  show gV G mX11_goRows 7 Q 33 [some (sr (some a0)), none, none, none, none, none, none, none, none] [] (0) (0) (jn a0 h m15)
  exact v_ret (pc := 33) dX11_goRows_33 rfl (okr hF fun q => q)
/-! BrailleDeskModel.canFocus -/
theorem tX11_canFocus {G : gG} (a0 : Int32) (h : hp) (Q : hQ) (hF : okB (fX11_canFocus a0) (pP gI Q h)) : gS G mX11_canFocus 1 0 0 [si a0] h Q := by
  delta fX11_canFocus at hF
  refine gS_at [some (si a0)] pl_X11 rfl (Nat.le_of_ble_eq_true rfl) rfl ?_
  refine v_iload_n (pc := 0) (i := 0) dX11_canFocus_0 rfl rfl ?_
  refine v_iconst (pc := 1) (v := (2 : Int32)) dX11_canFocus_1 rfl ?_
  refine v_iconst (pc := 2) (v := (4 : Int32)) dX11_canFocus_2 rfl ?_
  refine cp_S (pc := 3) gI (as := [si a0, si (2 : Int32), si (4 : Int32)]) (st := []) (N := mX11_in) (k := 0) (n := 0) (k1 := 0) (n1 := 0) dX11_canFocus_3 lkX11_114 caX11_in csX11_in rfl (fun Q1 hq => tX11_in a0 (2 : Int32) (4 : Int32) h Q1 hq) ⟨by decide, by decide⟩ (Nat.le_of_ble_eq_true rfl) rfl hF (fun x1 hF => ?_)
  show gV G mX11_canFocus 1 Q 6 [some (si a0)] [si x1] (0) (0) h
  exact s_zret (pc := 6) dX11_canFocus_6 rfl hF (fun hF => (okr hF fun q => q))
/-! BrailleDeskModel.goTab -/
theorem lX11_goTab_9 {G : gG} {Q : hQ} {P : Int32 → Prop} {k n : Nat} (a0 : Nat) (h : hp) (c1 : Int32) (m : mm) (hJ : ∀ q : Int32, P q → gV G mX11_goTab 7 Q 63 [some (sr (some a0)), none, some (si q), none, none] [] (k) (n) (jn a0 h m)) : ∀ (fu : Nat) (a : (Int32 × Int32)), okB (itr (fX11_goTab_B9 c1 m) fu a) P → gV G mX11_goTab 7 Q 9 [some (sr (some a0)), some (si c1), some (si a.1), some (si a.2), none] [] (k) (n) (jn a0 h m) :=
  lpg (X := fun (a : (Int32 × Int32)) => gV G mX11_goTab 7 Q 9 [some (sr (some a0)), some (si c1), some (si a.1), some (si a.2), none] [] (k) (n) (jn a0 h m)) (fun a P2 hL hE hF => by
    delta fX11_goTab_B9 at hF
    refine v_iload_n (pc := 9) (i := 3) dX11_goTab_9 rfl rfl ?_
    refine v_aload_n (pc := 10) (i := 0) dX11_goTab_10 rfl rfl ?_
    refine m_getI (pc := 11) (j := 50) dX11_goTab_11 flX11_122 rfl rfl ?_
    refine v_icmp_gt (pc := 14) 63 dX11_goTab_14 rfl (fun hc => ?_) (fun hc => ?_)
    · replace hF := (okB_if hF).1 hc
      exact v_lle [some (sr (some a0)), none, some (si a.1), none, none] ⟨rfl, rfl, trivial⟩ (hJ a.1 (hE _ (okB_some hF)))
    replace hF := (okB_if hF).2 hc
    refine v_iload_n (pc := 17) (i := 2) dX11_goTab_17 rfl rfl ?_
    refine v_iconst (pc := 18) (v := (-1 : Int32)) dX11_goTab_18 rfl ?_
    refine v_icmp_ne (pc := 19) 63 dX11_goTab_19 rfl (fun hc => ?_) (fun hc => ?_)
    · replace hF := (okB_if hF).2 hc
      exact v_lle [some (sr (some a0)), none, some (si a.1), none, none] ⟨rfl, rfl, trivial⟩ (hJ a.1 (hE _ (okB_some hF)))
    replace hF := (okB_if hF).1 hc
    refine v_aload_n (pc := 22) (i := 0) dX11_goTab_22 rfl rfl ?_
    refine m_getA (pc := 23) (j := 49) dX11_goTab_23 flX11_92 rfl (by decide) ?_
    refine v_iload_n (pc := 26) (i := 1) dX11_goTab_26 rfl rfl ?_
    refine v_iload_n (pc := 27) (i := 3) dX11_goTab_27 rfl rfl ?_
    refine v_iadd (pc := 28) dX11_goTab_28 ?_
    refine v_aload_n (pc := 29) (i := 0) dX11_goTab_29 rfl rfl ?_
    refine m_getI (pc := 30) (j := 50) dX11_goTab_30 flX11_122 rfl rfl ?_
    refine s_irem (pc := 33) dX11_goTab_33 hF (fun hF => ?_)
    refine m_iald (pc := 34) (j := 49) dX11_goTab_34 hF (fun x1 hF => ?_)
    refine v_istore (pc := 35) (i := 4) [some (sr (some a0)), some (si c1), some (si a.1), some (si a.2), some (si x1)] dX11_goTab_35 (by decide) rfl rfl ?_
    refine v_aload_n (pc := 37) (i := 0) dX11_goTab_37 rfl rfl ?_
    refine m_getA (pc := 38) (j := 2) dX11_goTab_38 flX11_13 rfl (by decide) ?_
    refine v_iload (pc := 41) (i := 4) dX11_goTab_41 rfl ?_
    refine m_iald (pc := 43) (j := 2) dX11_goTab_43 hF (fun x2 hF => ?_)
    refine cp_S (pc := 44) gI (as := [si x2]) (st := []) (N := mX11_canFocus) (k := k) (n := n) (k1 := 0) (n1 := 0) dX11_goTab_44 lkX11_343 caX11_canFocus csX11_canFocus rfl (fun Q1 hq => tX11_canFocus x2 (jn a0 h m) Q1 hq) ⟨by decide, by decide⟩ (Nat.le_of_ble_eq_true rfl) rfl hF (fun x3 hF => ?_)
    show gV G mX11_goTab 7 Q 47 [some (sr (some a0)), some (si c1), some (si a.1), some (si a.2), some (si x1)] [si x3] (k) (n) (jn a0 h m)
    refine v_if_eq (pc := 47) 55 dX11_goTab_47 rfl (fun hc => ?_) (fun hc => ?_)
    · replace hF := (okB_if hF).1 hc
      refine v_iconst (pc := 55) (v := (-1 : Int32)) dX11_goTab_55 rfl ?_
      refine v_istore_n (pc := 56) (i := 2) [some (sr (some a0)), some (si c1), some (si (-1 : Int32)), some (si a.2), some (si x1)] dX11_goTab_56 rfl (by decide) rfl rfl ?_
      refine v_iinc (pc := 57) (i := 3) (a.2 + (1 : Int32)) [some (sr (some a0)), some (si c1), some (si (-1 : Int32)), some (si (a.2 + (1 : Int32))), some (si x1)] dX11_goTab_57 rfl rfl rfl rfl ?_
      refine v_goto (pc := 60) 9 dX11_goTab_60 rfl ?_
      exact v_lle [some (sr (some a0)), some (si c1), some (si (-1 : Int32)), some (si (a.2 + (1 : Int32))), none] ⟨rfl, rfl, rfl, rfl, trivial⟩ (hL ((-1 : Int32), a.2 + (1 : Int32)) (okB_some hF))
    replace hF := (okB_if hF).2 hc
    refine v_iload (pc := 50) (i := 4) dX11_goTab_50 rfl ?_
    refine v_goto (pc := 52) 56 dX11_goTab_52 rfl ?_
    refine v_istore_n (pc := 56) (i := 2) [some (sr (some a0)), some (si c1), some (si x1), some (si a.2), some (si x1)] dX11_goTab_56 rfl (by decide) rfl rfl ?_
    refine v_iinc (pc := 57) (i := 3) (a.2 + (1 : Int32)) [some (sr (some a0)), some (si c1), some (si x1), some (si (a.2 + (1 : Int32))), some (si x1)] dX11_goTab_57 rfl rfl rfl rfl ?_
    refine v_goto (pc := 60) 9 dX11_goTab_60 rfl ?_
    exact v_lle [some (sr (some a0)), some (si c1), some (si x1), some (si (a.2 + (1 : Int32))), none] ⟨rfl, rfl, rfl, rfl, trivial⟩ (hL (x1, a.2 + (1 : Int32)) (okB_some hF)))
theorem tX11_goTab {G : gG} (a0 : Nat) (h : hp)  (m : mm) (Q : hQ) (hF : okB (fX11_goTab m) (pM gU Q a0 h)) : gS G mX11_goTab 7 0 0 [sr (some a0)] (jn a0 h m) Q := by
  delta fX11_goTab at hF
  refine gS_at [some (sr (some a0)), none, none, none, none] pl_X11 rfl (Nat.le_of_ble_eq_true rfl) rfl ?_
  refine v_aload_n (pc := 0) (i := 0) dX11_goTab_0 rfl rfl ?_
  refine chM_V (pc := 1) gI (as := []) (st := []) (N := mX11_layCursor) (k := 0) (n := 0) (k1 := 0) (n1 := 0) dX11_goTab_1 lkX11_328 caX11_layCursor cvX11_layCursor rfl rfl (fun Q1 hq => tX11_layCursor a0 h m Q1 hq) ⟨by decide, by decide⟩ (Nat.le_of_ble_eq_true rfl) rfl hF (fun x1 m2 hF => ?_)
  show gV G mX11_goTab 7 Q 4 [some (sr (some a0)), none, none, none, none] [si x1] (0) (0) (jn a0 h m2)
  refine v_istore_n (pc := 4) (i := 1) [some (sr (some a0)), some (si x1), none, none, none] dX11_goTab_4 rfl (by decide) rfl rfl ?_
  refine v_iconst (pc := 5) (v := (-1 : Int32)) dX11_goTab_5 rfl ?_
  refine v_istore_n (pc := 6) (i := 2) [some (sr (some a0)), some (si x1), some (si (-1 : Int32)), none, none] dX11_goTab_6 rfl (by decide) rfl rfl ?_
  refine v_iconst (pc := 7) (v := (1 : Int32)) dX11_goTab_7 rfl ?_
  refine v_istore_n (pc := 8) (i := 3) [some (sr (some a0)), some (si x1), some (si (-1 : Int32)), some (si (1 : Int32)), none] dX11_goTab_8 rfl (by decide) rfl rfl ?_
  refine mg (X := fun q3 => gV G mX11_goTab 7 Q 63 [some (sr (some a0)), none, some (si q3), none, none] [] (0) (0) (jn a0 h m2)) hF (fun _ hj10 hF => v_lle [some (sr (some a0)), some (si x1), some (si (-1 : Int32)), some (si (1 : Int32)), none] ⟨rfl, rfl, rfl, rfl, trivial⟩ (lX11_goTab_9 a0 h x1 m2 hj10 FU ((-1 : Int32), (1 : Int32)) hF)) (fun q3 hF => ?_)
  refine v_aload_n (pc := 63) (i := 0) dX11_goTab_63 rfl rfl ?_
  refine v_iload_n (pc := 64) (i := 2) dX11_goTab_64 rfl rfl ?_
  refine v_iconst (pc := 65) (v := (-1 : Int32)) dX11_goTab_65 rfl ?_
  refine mg (X := fun q4 => gV G mX11_goTab 7 Q 77 [some (sr (some a0)), none, some (si q3), none, none] [si q4, sr (some a0)] (0) (0) (jn a0 h m2)) hF (fun _ hj5 hF => ?_) (fun q4 hF => ?_)
  · refine v_icmp_ne (pc := 66) 76 dX11_goTab_66 rfl (fun hc => ?_) (fun hc => ?_)
    · replace hF := (okB_if hF).2 hc
      refine v_iload_n (pc := 76) (i := 2) dX11_goTab_76 rfl rfl ?_
      exact v_lle [some (sr (some a0)), none, some (si q3), none, none] ⟨rfl, rfl, trivial⟩ (hj5 q3 (okB_some hF))
    replace hF := (okB_if hF).1 hc
    refine v_aload_n (pc := 69) (i := 0) dX11_goTab_69 rfl rfl ?_
    refine m_getI (pc := 70) (j := 21) dX11_goTab_70 flX11_105 rfl rfl ?_
    refine v_goto (pc := 73) 77 dX11_goTab_73 rfl ?_
    exact v_lle [some (sr (some a0)), none, some (si q3), none, none] ⟨rfl, rfl, trivial⟩ (hj5 (m2 21 0) (okB_some hF))
  refine m_putI (pc := 77) (j := 21) dX11_goTab_77 flX11_105 rfl rfl rfl hF (fun m6 hF => ?_)
  refine v_aload_n (pc := 80) (i := 0) dX11_goTab_80 rfl rfl ?_
  refine v_iload_n (pc := 81) (i := 2) dX11_goTab_81 rfl rfl ?_
  refine cp_S (pc := 82) gL (as := []) (st := [si q3, sr (some a0)]) (N := mX11_none) (k := 0) (n := 0) (k1 := 0) (n1 := 0) dX11_goTab_82 lkX11_340 caX11_none csX11_none rfl (fun Q1 hq => tX11_none (jn a0 h m6) Q1 hq) ⟨by decide, by decide⟩ (Nat.le_of_ble_eq_true rfl) rfl hF (fun x7 hF => ?_)
  show gV G mX11_goTab 7 Q 85 [some (sr (some a0)), none, some (si q3), none, none] [sl x7, si q3, sr (some a0)] (0) (0) (jn a0 h m6)
  refine chM_V (pc := 85) gU (as := [si q3, sl x7]) (st := []) (N := mX11_goOr) (k := 0) (n := 0) (k1 := 0) (n1 := 0) dX11_goTab_85 lkX11_336 caX11_goOr cvX11_goOr rfl rfl (fun Q1 hq => tX11_goOr a0 h q3 x7 m6 Q1 hq) ⟨by decide, by decide⟩ (Nat.le_of_ble_eq_true rfl) rfl hF (fun x8 m9 hF => ?_)
  show gV G mX11_goTab 7 Q 88 [some (sr (some a0)), none, some (si q3), none, none] [] (0) (0) (jn a0 h m9)
  exact v_ret (pc := 88) dX11_goTab_88 rfl (okr hF fun q => q)
/-! BrailleDeskModel.act -/
theorem tX11_act {G : gG} (a0 : Nat) (h : hp)  (m : mm) (Q : hQ) (hF : okB (fX11_act m) (pM gU Q a0 h)) : gS G mX11_act 4 0 0 [sr (some a0)] (jn a0 h m) Q := by
  delta fX11_act at hF
  refine gS_at [some (sr (some a0)), none] pl_X11 rfl (Nat.le_of_ble_eq_true rfl) rfl ?_
  refine v_aload_n (pc := 0) (i := 0) dX11_act_0 rfl rfl ?_
  refine m_getA (pc := 1) (j := 2) dX11_act_1 flX11_13 rfl (by decide) ?_
  refine v_aload_n (pc := 4) (i := 0) dX11_act_4 rfl rfl ?_
  refine m_getI (pc := 5) (j := 20) dX11_act_5 flX11_128 rfl rfl ?_
  refine m_iald (pc := 8) (j := 2) dX11_act_8 hF (fun x1 hF => ?_)
  refine v_istore_n (pc := 9) (i := 1) [some (sr (some a0)), some (si x1)] dX11_act_9 rfl (by decide) rfl rfl ?_
  refine v_iload_n (pc := 10) (i := 1) dX11_act_10 rfl rfl ?_
  refine cp_S (pc := 11) gI (as := [si x1]) (st := []) (N := mX11_canFocus) (k := 0) (n := 0) (k1 := 0) (n1 := 0) dX11_act_11 lkX11_343 caX11_canFocus csX11_canFocus rfl (fun Q1 hq => tX11_canFocus x1 (jn a0 h m) Q1 hq) ⟨by decide, by decide⟩ (Nat.le_of_ble_eq_true rfl) rfl hF (fun x2 hF => ?_)
  show gV G mX11_act 4 Q 14 [some (sr (some a0)), some (si x1)] [si x2] (0) (0) (jn a0 h m)
  refine v_if_ne (pc := 14) 25 dX11_act_14 rfl (fun hc => ?_) (fun hc => ?_)
  · replace hF := (okB_if hF).2 hc
    refine v_aload_n (pc := 25) (i := 0) dX11_act_25 rfl rfl ?_
    refine v_aload_n (pc := 26) (i := 0) dX11_act_26 rfl rfl ?_
    refine m_getI (pc := 27) (j := 20) dX11_act_27 flX11_128 rfl rfl ?_
    refine m_putI (pc := 30) (j := 21) dX11_act_30 flX11_105 rfl rfl rfl hF (fun m3 hF => ?_)
    refine v_aload_n (pc := 33) (i := 0) dX11_act_33 rfl rfl ?_
    refine v_iconst (pc := 34) (v := (0 : Int32)) dX11_act_34 rfl ?_
    refine m_putI (pc := 35) (j := 29) dX11_act_35 flX11_143 rfl rfl rfl hF (fun m4 hF => ?_)
    refine v_iload_n (pc := 38) (i := 1) dX11_act_38 rfl rfl ?_
    refine v_iconst (pc := 39) (v := (2 : Int32)) dX11_act_39 rfl ?_
    refine mg (X := fun q5 => gV G mX11_act 4 Q 160 [some (sr (some a0)), none] [] (0) (0) (jn a0 h q5)) hF (fun _ hj6 hF => ?_) (fun q5 hF => ?_)
    · refine v_icmp_ne (pc := 40) 80 dX11_act_40 rfl (fun hc => ?_) (fun hc => ?_)
      · replace hF := (okB_if hF).2 hc
        refine v_iload_n (pc := 80) (i := 1) dX11_act_80 rfl rfl ?_
        refine v_iconst (pc := 81) (v := (3 : Int32)) dX11_act_81 rfl ?_
        refine v_icmp_ne (pc := 82) 127 dX11_act_82 rfl (fun hc => ?_) (fun hc => ?_)
        · replace hF := (okB_if hF).2 hc
          refine v_aload_n (pc := 127) (i := 0) dX11_act_127 rfl rfl ?_
          refine v_iconst (pc := 128) (v := (1 : Int32)) dX11_act_128 rfl ?_
          refine m_putZ (pc := 129) (j := 22) dX11_act_129 flX11_267 rfl rfl rfl hF (fun m7 hF => ?_)
          refine v_aload_n (pc := 132) (i := 0) dX11_act_132 rfl rfl ?_
          refine v_iconst (pc := 133) (v := (0 : Int32)) dX11_act_133 rfl ?_
          refine m_putZ (pc := 134) (j := 23) dX11_act_134 flX11_346 rfl rfl rfl hF (fun m8 hF => ?_)
          refine v_aload_n (pc := 137) (i := 0) dX11_act_137 rfl rfl ?_
          refine v_iconst (pc := 138) (v := (0 : Int32)) dX11_act_138 rfl ?_
          refine m_putZ (pc := 139) (j := 24) dX11_act_139 flX11_349 rfl rfl rfl hF (fun m9 hF => ?_)
          refine v_aload_n (pc := 142) (i := 0) dX11_act_142 rfl rfl ?_
          refine v_iconst (pc := 143) (v := (0 : Int32)) dX11_act_143 rfl ?_
          refine v_iconst (pc := 144) (v := (0 : Int32)) dX11_act_144 rfl ?_
          refine v_iconst (pc := 145) (v := (0 : Int32)) dX11_act_145 rfl ?_
          refine v_bipush (pc := 146) (v := (116 : Int32)) dX11_act_146 rfl ?_
          refine v_bipush (pc := 148) (v := (121 : Int32)) dX11_act_148 rfl ?_
          refine v_bipush (pc := 150) (v := (112 : Int32)) dX11_act_150 rfl ?_
          refine v_bipush (pc := 152) (v := (101 : Int32)) dX11_act_152 rfl ?_
          refine cp_S (pc := 154) gL (as := [si (0 : Int32), si (0 : Int32), si (0 : Int32), si (116 : Int32), si (121 : Int32), si (112 : Int32), si (101 : Int32)]) (st := [sr (some a0)]) (N := mX11_word) (k := 0) (n := 0) (k1 := 0) (n1 := 0) dX11_act_154 lkX11_133 caX11_word csX11_word rfl (fun Q1 hq => tX11_word (0 : Int32) (0 : Int32) (0 : Int32) (116 : Int32) (121 : Int32) (112 : Int32) (101 : Int32) (jn a0 h m9) Q1 hq) ⟨by decide, by decide⟩ (Nat.le_of_ble_eq_true rfl) rfl hF (fun x10 hF => ?_)
          show gV G mX11_act 4 Q 157 [some (sr (some a0)), some (si x1)] [sl x10, sr (some a0)] (0) (0) (jn a0 h m9)
          refine chM_V (pc := 157) gU (as := [sl x10]) (st := []) (N := mX11_partWord) (k := 0) (n := 0) (k1 := 0) (n1 := 0) dX11_act_157 lkX11_160 caX11_partWord cvX11_partWord rfl rfl (fun Q1 hq => tX11_partWord a0 h x10 m9 Q1 hq) ⟨by decide, by decide⟩ (Nat.le_of_ble_eq_true rfl) rfl hF (fun x11 m12 hF => ?_)
          show gV G mX11_act 4 Q 160 [some (sr (some a0)), some (si x1)] [] (0) (0) (jn a0 h m12)
          exact v_lle [some (sr (some a0)), none] ⟨rfl, trivial⟩ (hj6 m12 (okB_some hF))
        replace hF := (okB_if hF).1 hc
        refine v_aload_n (pc := 85) (i := 0) dX11_act_85 rfl rfl ?_
        refine m_getA (pc := 86) (j := 10) dX11_act_86 flX11_38 rfl (by decide) ?_
        refine v_aload_n (pc := 89) (i := 0) dX11_act_89 rfl rfl ?_
        refine m_getI (pc := 90) (j := 20) dX11_act_90 flX11_128 rfl rfl ?_
        refine v_aload_n (pc := 93) (i := 0) dX11_act_93 rfl rfl ?_
        refine m_getA (pc := 94) (j := 10) dX11_act_94 flX11_38 rfl (by decide) ?_
        refine v_aload_n (pc := 97) (i := 0) dX11_act_97 rfl rfl ?_
        refine m_getI (pc := 98) (j := 20) dX11_act_98 flX11_128 rfl rfl ?_
        refine m_zald (pc := 101) (j := 10) dX11_act_101 hF (fun x13 hF => ?_)
        refine mg (X := fun q14 => gV G mX11_act 4 Q 110 [some (sr (some a0)), none] [si q14, si (m4 20 0), sr (some (a0 + mo 10))] (0) (0) (jn a0 h m4)) hF (fun _ hj15 hF => ?_) (fun q14 hF => ?_)
        · refine v_if_ne (pc := 102) 109 dX11_act_102 rfl (fun hc => ?_) (fun hc => ?_)
          · replace hF := (okB_if hF).2 hc
            refine v_iconst (pc := 109) (v := (0 : Int32)) dX11_act_109 rfl ?_
            exact v_lle [some (sr (some a0)), none] ⟨rfl, trivial⟩ (hj15 (0 : Int32) (okB_some hF))
          replace hF := (okB_if hF).1 hc
          refine v_iconst (pc := 105) (v := (1 : Int32)) dX11_act_105 rfl ?_
          refine v_goto (pc := 106) 110 dX11_act_106 rfl ?_
          exact v_lle [some (sr (some a0)), none] ⟨rfl, trivial⟩ (hj15 (1 : Int32) (okB_some hF))
        refine m_zast (pc := 110) (j := 10) dX11_act_110 hF (fun m16 hF => ?_)
        refine v_aload_n (pc := 111) (i := 0) dX11_act_111 rfl rfl ?_
        refine v_aload_n (pc := 112) (i := 0) dX11_act_112 rfl rfl ?_
        refine m_getA (pc := 113) (j := 10) dX11_act_113 flX11_38 rfl (by decide) ?_
        refine v_aload_n (pc := 116) (i := 0) dX11_act_116 rfl rfl ?_
        refine m_getI (pc := 117) (j := 20) dX11_act_117 flX11_128 rfl rfl ?_
        refine m_zald (pc := 120) (j := 10) dX11_act_120 hF (fun x17 hF => ?_)
        refine chM_V (pc := 121) gU (as := [si x17]) (st := []) (N := mX11_partOn) (k := 0) (n := 0) (k1 := 0) (n1 := 0) dX11_act_121 lkX11_171 caX11_partOn cvX11_partOn rfl rfl (fun Q1 hq => tX11_partOn a0 h x17 m16 Q1 hq) ⟨by decide, by decide⟩ (Nat.le_of_ble_eq_true rfl) rfl hF (fun x18 m19 hF => ?_)
        show gV G mX11_act 4 Q 124 [some (sr (some a0)), none] [] (0) (0) (jn a0 h m19)
        refine v_goto (pc := 124) 160 dX11_act_124 rfl ?_
        exact v_lle [some (sr (some a0)), none] ⟨rfl, trivial⟩ (hj6 m19 (okB_some hF))
      replace hF := (okB_if hF).1 hc
      refine v_aload_n (pc := 43) (i := 0) dX11_act_43 rfl rfl ?_
      refine m_getA (pc := 44) (j := 11) dX11_act_44 flX11_41 rfl (by decide) ?_
      refine v_aload_n (pc := 47) (i := 0) dX11_act_47 rfl rfl ?_
      refine m_getI (pc := 48) (j := 20) dX11_act_48 flX11_128 rfl rfl ?_
      refine v_dup2 (pc := 51) dX11_act_51 rfl rfl ?_
      refine m_iald (pc := 52) (j := 11) dX11_act_52 hF (fun x20 hF => ?_)
      refine v_iconst (pc := 53) (v := (1 : Int32)) dX11_act_53 rfl ?_
      refine v_iadd (pc := 54) dX11_act_54 ?_
      refine m_iast (pc := 55) (j := 11) dX11_act_55 hF (fun m21 hF => ?_)
      refine v_aload_n (pc := 56) (i := 0) dX11_act_56 rfl rfl ?_
      refine v_bipush (pc := 57) (v := (112 : Int32)) dX11_act_57 rfl ?_
      refine v_bipush (pc := 59) (v := (114 : Int32)) dX11_act_59 rfl ?_
      refine v_bipush (pc := 61) (v := (101 : Int32)) dX11_act_61 rfl ?_
      refine v_bipush (pc := 63) (v := (115 : Int32)) dX11_act_63 rfl ?_
      refine v_bipush (pc := 65) (v := (115 : Int32)) dX11_act_65 rfl ?_
      refine v_bipush (pc := 67) (v := (101 : Int32)) dX11_act_67 rfl ?_
      refine v_bipush (pc := 69) (v := (100 : Int32)) dX11_act_69 rfl ?_
      refine cp_S (pc := 71) gL (as := [si (112 : Int32), si (114 : Int32), si (101 : Int32), si (115 : Int32), si (115 : Int32), si (101 : Int32), si (100 : Int32)]) (st := [sr (some a0)]) (N := mX11_word) (k := 0) (n := 0) (k1 := 0) (n1 := 0) dX11_act_71 lkX11_133 caX11_word csX11_word rfl (fun Q1 hq => tX11_word (112 : Int32) (114 : Int32) (101 : Int32) (115 : Int32) (115 : Int32) (101 : Int32) (100 : Int32) (jn a0 h m21) Q1 hq) ⟨by decide, by decide⟩ (Nat.le_of_ble_eq_true rfl) rfl hF (fun x22 hF => ?_)
      show gV G mX11_act 4 Q 74 [some (sr (some a0)), some (si x1)] [sl x22, sr (some a0)] (0) (0) (jn a0 h m21)
      refine chM_V (pc := 74) gU (as := [sl x22]) (st := []) (N := mX11_partWord) (k := 0) (n := 0) (k1 := 0) (n1 := 0) dX11_act_74 lkX11_160 caX11_partWord cvX11_partWord rfl rfl (fun Q1 hq => tX11_partWord a0 h x22 m21 Q1 hq) ⟨by decide, by decide⟩ (Nat.le_of_ble_eq_true rfl) rfl hF (fun x23 m24 hF => ?_)
      show gV G mX11_act 4 Q 77 [some (sr (some a0)), some (si x1)] [] (0) (0) (jn a0 h m24)
      refine v_goto (pc := 77) 160 dX11_act_77 rfl ?_
      exact v_lle [some (sr (some a0)), none] ⟨rfl, trivial⟩ (hj6 m24 (okB_some hF))
    refine v_aload_n (pc := 160) (i := 0) dX11_act_160 rfl rfl ?_
    refine chM_V (pc := 161) gU (as := []) (st := []) (N := mX11_comeAnswer) (k := 0) (n := 0) (k1 := 0) (n1 := 0) dX11_act_161 lkX11_203 caX11_comeAnswer cvX11_comeAnswer rfl rfl (fun Q1 hq => tX11_comeAnswer a0 h q5 Q1 hq) ⟨by decide, by decide⟩ (Nat.le_of_ble_eq_true rfl) rfl hF (fun x25 m26 hF => ?_)
    show gV G mX11_act 4 Q 164 [some (sr (some a0)), none] [] (0) (0) (jn a0 h m26)
    exact v_ret (pc := 164) dX11_act_164 rfl (okr hF fun q => q)
  replace hF := (okB_if hF).1 hc
  refine v_aload_n (pc := 17) (i := 0) dX11_act_17 rfl rfl ?_
  refine cp_S (pc := 18) gL (as := []) (st := [sr (some a0)]) (N := mX11_none) (k := 0) (n := 0) (k1 := 0) (n1 := 0) dX11_act_18 lkX11_340 caX11_none csX11_none rfl (fun Q1 hq => tX11_none (jn a0 h m) Q1 hq) ⟨by decide, by decide⟩ (Nat.le_of_ble_eq_true rfl) rfl hF (fun x27 hF => ?_)
  show gV G mX11_act 4 Q 21 [some (sr (some a0)), some (si x1)] [sl x27, sr (some a0)] (0) (0) (jn a0 h m)
  refine chM_V (pc := 21) gU (as := [sl x27]) (st := []) (N := mX11_say) (k := 0) (n := 0) (k1 := 0) (n1 := 0) dX11_act_21 lkX11_322 caX11_say cvX11_say rfl rfl (fun Q1 hq => tX11_say a0 h x27 m Q1 hq) ⟨by decide, by decide⟩ (Nat.le_of_ble_eq_true rfl) rfl hF (fun x28 m29 hF => ?_)
  show gV G mX11_act 4 Q 24 [some (sr (some a0)), some (si x1)] [] (0) (0) (jn a0 h m29)
  exact v_ret (pc := 24) dX11_act_24 rfl (okr hF fun q => q)
