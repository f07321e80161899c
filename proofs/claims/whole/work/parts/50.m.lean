/-! ===== methods: their functions and rows ===== -/
theorem dX11_command_0 : decode cX11_command 0 = .ok (.iload_n 1, 1) := by decide +kernel
theorem dX11_command_1 : decode cX11_command 1 = .ok (.iconst 1, 1) := by decide +kernel
theorem dX11_command_2 : decode cX11_command 2 = .ok (.if_icmp .eq 9, 3) := by decide +kernel
theorem dX11_command_5 : decode cX11_command 5 = .ok (.iload_n 1, 1) := by decide +kernel
theorem dX11_command_6 : decode cX11_command 6 = .ok (.bipush 8, 2) := by decide +kernel
theorem dX11_command_8 : decode cX11_command 8 = .ok (.if_icmp .ne 20, 3) := by decide +kernel
theorem dX11_command_11 : decode cX11_command 11 = .ok (.aload_n 0, 1) := by decide +kernel
theorem dX11_command_12 : decode cX11_command 12 = .ok (.iload_n 1, 1) := by decide +kernel
theorem dX11_command_13 : decode cX11_command 13 = .ok (.iconst 1, 1) := by decide +kernel
theorem dX11_command_14 : decode cX11_command 14 = .ok (.if_icmp .ne 7, 3) := by decide +kernel
theorem dX11_command_17 : decode cX11_command 17 = .ok (.iconst (-1), 1) := by decide +kernel
theorem dX11_command_18 : decode cX11_command 18 = .ok (.goto 4, 3) := by decide +kernel
theorem dX11_command_21 : decode cX11_command 21 = .ok (.iconst 1, 1) := by decide +kernel
theorem dX11_command_22 : decode cX11_command 22 = .ok (.invokevirtual 352, 3) := by decide +kernel
theorem dX11_command_25 : decode cX11_command 25 = .ok (.goto 204, 3) := by decide +kernel
theorem dX11_command_28 : decode cX11_command 28 = .ok (.iload_n 1, 1) := by decide +kernel
theorem dX11_command_29 : decode cX11_command 29 = .ok (.iconst 4, 1) := by decide +kernel
theorem dX11_command_30 : decode cX11_command 30 = .ok (.if_icmp .ne 22, 3) := by decide +kernel
theorem dX11_command_33 : decode cX11_command 33 = .ok (.aload_n 0, 1) := by decide +kernel
theorem dX11_command_34 : decode cX11_command 34 = .ok (.aload_n 0, 1) := by decide +kernel
theorem dX11_command_35 : decode cX11_command 35 = .ok (.getfield 17, 3) := by decide +kernel
theorem dX11_command_38 : decode cX11_command 38 = .ok (.aload_n 0, 1) := by decide +kernel
theorem dX11_command_39 : decode cX11_command 39 = .ok (.getfield 128, 3) := by decide +kernel
theorem dX11_command_42 : decode cX11_command 42 = .ok (.iaload, 1) := by decide +kernel
theorem dX11_command_43 : decode cX11_command 43 = .ok (.invokestatic 340, 3) := by decide +kernel
theorem dX11_command_46 : decode cX11_command 46 = .ok (.invokevirtual 336, 3) := by decide +kernel
theorem dX11_command_49 : decode cX11_command 49 = .ok (.goto 180, 3) := by decide +kernel
theorem dX11_command_52 : decode cX11_command 52 = .ok (.iload_n 1, 1) := by decide +kernel
theorem dX11_command_53 : decode cX11_command 53 = .ok (.bipush 32, 2) := by decide +kernel
theorem dX11_command_55 : decode cX11_command 55 = .ok (.if_icmp .ne 10, 3) := by decide +kernel
theorem dX11_command_58 : decode cX11_command 58 = .ok (.aload_n 0, 1) := by decide +kernel
theorem dX11_command_59 : decode cX11_command 59 = .ok (.invokevirtual 355, 3) := by decide +kernel
theorem dX11_command_62 : decode cX11_command 62 = .ok (.goto 167, 3) := by decide +kernel
theorem dX11_command_65 : decode cX11_command 65 = .ok (.iload_n 1, 1) := by decide +kernel
theorem dX11_command_66 : decode cX11_command 66 = .ok (.iconst 2, 1) := by decide +kernel
theorem dX11_command_67 : decode cX11_command 67 = .ok (.if_icmp .eq 9, 3) := by decide +kernel
theorem dX11_command_70 : decode cX11_command 70 = .ok (.iload_n 1, 1) := by decide +kernel
theorem dX11_command_71 : decode cX11_command 71 = .ok (.bipush 16, 2) := by decide +kernel
theorem dX11_command_73 : decode cX11_command 73 = .ok (.if_icmp .ne 20, 3) := by decide +kernel
theorem dX11_command_76 : decode cX11_command 76 = .ok (.aload_n 0, 1) := by decide +kernel
theorem dX11_command_77 : decode cX11_command 77 = .ok (.iload_n 1, 1) := by decide +kernel
theorem dX11_command_78 : decode cX11_command 78 = .ok (.iconst 2, 1) := by decide +kernel
theorem dX11_command_79 : decode cX11_command 79 = .ok (.if_icmp .ne 7, 3) := by decide +kernel
theorem dX11_command_82 : decode cX11_command 82 = .ok (.iconst (-1), 1) := by decide +kernel
theorem dX11_command_83 : decode cX11_command 83 = .ok (.goto 4, 3) := by decide +kernel
theorem dX11_command_86 : decode cX11_command 86 = .ok (.iconst 1, 1) := by decide +kernel
theorem dX11_command_87 : decode cX11_command 87 = .ok (.invokevirtual 358, 3) := by decide +kernel
theorem dX11_command_90 : decode cX11_command 90 = .ok (.goto 139, 3) := by decide +kernel
theorem dX11_command_93 : decode cX11_command 93 = .ok (.iload_n 1, 1) := by decide +kernel
theorem dX11_command_94 : decode cX11_command 94 = .ok (.bipush 30, 2) := by decide +kernel
theorem dX11_command_96 : decode cX11_command 96 = .ok (.if_icmp .ne 10, 3) := by decide +kernel
theorem dX11_command_99 : decode cX11_command 99 = .ok (.aload_n 0, 1) := by decide +kernel
theorem dX11_command_100 : decode cX11_command 100 = .ok (.invokevirtual 361, 3) := by decide +kernel
theorem dX11_command_103 : decode cX11_command 103 = .ok (.goto 126, 3) := by decide +kernel
theorem dX11_command_106 : decode cX11_command 106 = .ok (.iload_n 1, 1) := by decide +kernel
theorem dX11_command_107 : decode cX11_command 107 = .ok (.sipush 128, 3) := by decide +kernel
theorem dX11_command_110 : decode cX11_command 110 = .ok (.if_icmp .ne 10, 3) := by decide +kernel
theorem dX11_command_113 : decode cX11_command 113 = .ok (.aload_n 0, 1) := by decide +kernel
theorem dX11_command_114 : decode cX11_command 114 = .ok (.invokevirtual 364, 3) := by decide +kernel
theorem dX11_command_117 : decode cX11_command 117 = .ok (.goto 112, 3) := by decide +kernel
theorem dX11_command_120 : decode cX11_command 120 = .ok (.iload_n 1, 1) := by decide +kernel
theorem dX11_command_121 : decode cX11_command 121 = .ok (.bipush 64, 2) := by decide +kernel
theorem dX11_command_123 : decode cX11_command 123 = .ok (.if_icmp .ne 10, 3) := by decide +kernel
theorem dX11_command_126 : decode cX11_command 126 = .ok (.aload_n 0, 1) := by decide +kernel
theorem dX11_command_127 : decode cX11_command 127 = .ok (.invokevirtual 367, 3) := by decide +kernel
theorem dX11_command_130 : decode cX11_command 130 = .ok (.goto 99, 3) := by decide +kernel
theorem dX11_command_133 : decode cX11_command 133 = .ok (.iload_n 1, 1) := by decide +kernel
theorem dX11_command_134 : decode cX11_command 134 = .ok (.bipush 7, 2) := by decide +kernel
theorem dX11_command_136 : decode cX11_command 136 = .ok (.if_icmp .ne 28, 3) := by decide +kernel
theorem dX11_command_139 : decode cX11_command 139 = .ok (.aload_n 0, 1) := by decide +kernel
theorem dX11_command_140 : decode cX11_command 140 = .ok (.dup, 1) := by decide +kernel
theorem dX11_command_141 : decode cX11_command 141 = .ok (.getfield 274, 3) := by decide +kernel
theorem dX11_command_144 : decode cX11_command 144 = .ok (.aload_n 0, 1) := by decide +kernel
theorem dX11_command_145 : decode cX11_command 145 = .ok (.getfield 274, 3) := by decide +kernel
theorem dX11_command_148 : decode cX11_command 148 = .ok (.ifCond .le 8, 3) := by decide +kernel
theorem dX11_command_151 : decode cX11_command 151 = .ok (.bipush 10, 2) := by decide +kernel
theorem dX11_command_153 : decode cX11_command 153 = .ok (.goto 4, 3) := by decide +kernel
theorem dX11_command_156 : decode cX11_command 156 = .ok (.iconst 0, 1) := by decide +kernel
theorem dX11_command_157 : decode cX11_command 157 = .ok (.isub, 1) := by decide +kernel
theorem dX11_command_158 : decode cX11_command 158 = .ok (.putfield 274, 3) := by decide +kernel
theorem dX11_command_161 : decode cX11_command 161 = .ok (.goto 68, 3) := by decide +kernel
theorem dX11_command_164 : decode cX11_command 164 = .ok (.iload_n 1, 1) := by decide +kernel
theorem dX11_command_165 : decode cX11_command 165 = .ok (.bipush 56, 2) := by decide +kernel
theorem dX11_command_167 : decode cX11_command 167 = .ok (.if_icmp .ne 39, 3) := by decide +kernel
theorem dX11_command_170 : decode cX11_command 170 = .ok (.aload_n 0, 1) := by decide +kernel
theorem dX11_command_171 : decode cX11_command 171 = .ok (.invokevirtual 271, 3) := by decide +kernel
theorem dX11_command_174 : decode cX11_command 174 = .ok (.aload_n 0, 1) := by decide +kernel
theorem dX11_command_175 : decode cX11_command 175 = .ok (.dup, 1) := by decide +kernel
theorem dX11_command_176 : decode cX11_command 176 = .ok (.getfield 274, 3) := by decide +kernel
theorem dX11_command_179 : decode cX11_command 179 = .ok (.aload_n 0, 1) := by decide +kernel
theorem dX11_command_180 : decode cX11_command 180 = .ok (.getfield 274, 3) := by decide +kernel
theorem dX11_command_183 : decode cX11_command 183 = .ok (.bipush 10, 2) := by decide +kernel
theorem dX11_command_185 : decode cX11_command 185 = .ok (.iadd, 1) := by decide +kernel
theorem dX11_command_186 : decode cX11_command 186 = .ok (.aload_n 0, 1) := by decide +kernel
theorem dX11_command_187 : decode cX11_command 187 = .ok (.getfield 236, 3) := by decide +kernel
theorem dX11_command_190 : decode cX11_command 190 = .ok (.if_icmp .ge 8, 3) := by decide +kernel
theorem dX11_command_193 : decode cX11_command 193 = .ok (.bipush 10, 2) := by decide +kernel
theorem dX11_command_195 : decode cX11_command 195 = .ok (.goto 4, 3) := by decide +kernel
theorem dX11_command_198 : decode cX11_command 198 = .ok (.iconst 0, 1) := by decide +kernel
theorem dX11_command_199 : decode cX11_command 199 = .ok (.iadd, 1) := by decide +kernel
theorem dX11_command_200 : decode cX11_command 200 = .ok (.putfield 274, 3) := by decide +kernel
theorem dX11_command_203 : decode cX11_command 203 = .ok (.goto 26, 3) := by decide +kernel
theorem dX11_command_206 : decode cX11_command 206 = .ok (.iload_n 1, 1) := by decide +kernel
theorem dX11_command_207 : decode cX11_command 207 = .ok (.bipush 23, 2) := by decide +kernel
theorem dX11_command_209 : decode cX11_command 209 = .ok (.if_icmp .ne 20, 3) := by decide +kernel
theorem dX11_command_212 : decode cX11_command 212 = .ok (.aload_n 0, 1) := by decide +kernel
theorem dX11_command_213 : decode cX11_command 213 = .ok (.iconst 0, 1) := by decide +kernel
theorem dX11_command_214 : decode cX11_command 214 = .ok (.putfield 143, 3) := by decide +kernel
theorem dX11_command_217 : decode cX11_command 217 = .ok (.aload_n 0, 1) := by decide +kernel
theorem dX11_command_218 : decode cX11_command 218 = .ok (.aload_n 0, 1) := by decide +kernel
theorem dX11_command_219 : decode cX11_command 219 = .ok (.getfield 128, 3) := by decide +kernel
theorem dX11_command_222 : decode cX11_command 222 = .ok (.invokevirtual 227, 3) := by decide +kernel
theorem dX11_command_225 : decode cX11_command 225 = .ok (.aload_n 0, 1) := by decide +kernel
theorem dX11_command_226 : decode cX11_command 226 = .ok (.invokevirtual 203, 3) := by decide +kernel
theorem dX11_command_229 : decode cX11_command 229 = .ok (.return_, 1) := by decide +kernel
theorem dX11_goLetter_0 : decode cX11_goLetter 0 = .ok (.iconst (-1), 1) := by decide +kernel
theorem dX11_goLetter_1 : decode cX11_goLetter 1 = .ok (.istore_n 2, 1) := by decide +kernel
theorem dX11_goLetter_2 : decode cX11_goLetter 2 = .ok (.iconst 0, 1) := by decide +kernel
theorem dX11_goLetter_3 : decode cX11_goLetter 3 = .ok (.istore_n 3, 1) := by decide +kernel
theorem dX11_goLetter_4 : decode cX11_goLetter 4 = .ok (.iload_n 3, 1) := by decide +kernel
theorem dX11_goLetter_5 : decode cX11_goLetter 5 = .ok (.bipush 7, 2) := by decide +kernel
theorem dX11_goLetter_7 : decode cX11_goLetter 7 = .ok (.if_icmp .gt 35, 3) := by decide +kernel
theorem dX11_goLetter_10 : decode cX11_goLetter 10 = .ok (.iload_n 3, 1) := by decide +kernel
theorem dX11_goLetter_11 : decode cX11_goLetter 11 = .ok (.invokestatic 261, 3) := by decide +kernel
theorem dX11_goLetter_14 : decode cX11_goLetter 14 = .ok (.iconst (-1), 1) := by decide +kernel
theorem dX11_goLetter_15 : decode cX11_goLetter 15 = .ok (.if_icmp .eq 19, 3) := by decide +kernel
theorem dX11_goLetter_18 : decode cX11_goLetter 18 = .ok (.aload_n 0, 1) := by decide +kernel
theorem dX11_goLetter_19 : decode cX11_goLetter 19 = .ok (.iload_n 3, 1) := by decide +kernel
theorem dX11_goLetter_20 : decode cX11_goLetter 20 = .ok (.invokestatic 261, 3) := by decide +kernel
theorem dX11_goLetter_23 : decode cX11_goLetter 23 = .ok (.invokevirtual 248, 3) := by decide +kernel
theorem dX11_goLetter_26 : decode cX11_goLetter 26 = .ok (.iload_n 1, 1) := by decide +kernel
theorem dX11_goLetter_27 : decode cX11_goLetter 27 = .ok (.if_icmp .ne 7, 3) := by decide +kernel
theorem dX11_goLetter_30 : decode cX11_goLetter 30 = .ok (.iload_n 3, 1) := by decide +kernel
theorem dX11_goLetter_31 : decode cX11_goLetter 31 = .ok (.goto 4, 3) := by decide +kernel
theorem dX11_goLetter_34 : decode cX11_goLetter 34 = .ok (.iload_n 2, 1) := by decide +kernel
theorem dX11_goLetter_35 : decode cX11_goLetter 35 = .ok (.istore_n 2, 1) := by decide +kernel
theorem dX11_goLetter_36 : decode cX11_goLetter 36 = .ok (.iinc 3 1, 3) := by decide +kernel
theorem dX11_goLetter_39 : decode cX11_goLetter 39 = .ok (.goto (-35), 3) := by decide +kernel
theorem dX11_goLetter_42 : decode cX11_goLetter 42 = .ok (.iload_n 2, 1) := by decide +kernel
theorem dX11_goLetter_43 : decode cX11_goLetter 43 = .ok (.iconst (-1), 1) := by decide +kernel
theorem dX11_goLetter_44 : decode cX11_goLetter 44 = .ok (.if_icmp .ne 4, 3) := by decide +kernel
theorem dX11_goLetter_47 : decode cX11_goLetter 47 = .ok (.return_, 1) := by decide +kernel
theorem dX11_goLetter_48 : decode cX11_goLetter 48 = .ok (.iconst (-1), 1) := by decide +kernel
theorem dX11_goLetter_49 : decode cX11_goLetter 49 = .ok (.istore_n 3, 1) := by decide +kernel
theorem dX11_goLetter_50 : decode cX11_goLetter 50 = .ok (.aload_n 0, 1) := by decide +kernel
theorem dX11_goLetter_51 : decode cX11_goLetter 51 = .ok (.invokevirtual 328, 3) := by decide +kernel
theorem dX11_goLetter_54 : decode cX11_goLetter 54 = .ok (.iconst 1, 1) := by decide +kernel
theorem dX11_goLetter_55 : decode cX11_goLetter 55 = .ok (.iadd, 1) := by decide +kernel
theorem dX11_goLetter_56 : decode cX11_goLetter 56 = .ok (.istore 4, 2) := by decide +kernel
theorem dX11_goLetter_58 : decode cX11_goLetter 58 = .ok (.iload 4, 2) := by decide +kernel
theorem dX11_goLetter_60 : decode cX11_goLetter 60 = .ok (.aload_n 0, 1) := by decide +kernel
theorem dX11_goLetter_61 : decode cX11_goLetter 61 = .ok (.getfield 122, 3) := by decide +kernel
theorem dX11_goLetter_64 : decode cX11_goLetter 64 = .ok (.if_icmp .ge 42, 3) := by decide +kernel
theorem dX11_goLetter_67 : decode cX11_goLetter 67 = .ok (.iload_n 3, 1) := by decide +kernel
theorem dX11_goLetter_68 : decode cX11_goLetter 68 = .ok (.iconst (-1), 1) := by decide +kernel
theorem dX11_goLetter_69 : decode cX11_goLetter 69 = .ok (.if_icmp .ne 37, 3) := by decide +kernel
theorem dX11_goLetter_72 : decode cX11_goLetter 72 = .ok (.aload_n 0, 1) := by decide +kernel
theorem dX11_goLetter_73 : decode cX11_goLetter 73 = .ok (.getfield 13, 3) := by decide +kernel
theorem dX11_goLetter_76 : decode cX11_goLetter 76 = .ok (.aload_n 0, 1) := by decide +kernel
theorem dX11_goLetter_77 : decode cX11_goLetter 77 = .ok (.getfield 92, 3) := by decide +kernel
theorem dX11_goLetter_80 : decode cX11_goLetter 80 = .ok (.iload 4, 2) := by decide +kernel
theorem dX11_goLetter_82 : decode cX11_goLetter 82 = .ok (.iaload, 1) := by decide +kernel
theorem dX11_goLetter_83 : decode cX11_goLetter 83 = .ok (.iaload, 1) := by decide +kernel
theorem dX11_goLetter_84 : decode cX11_goLetter 84 = .ok (.iload_n 2, 1) := by decide +kernel
theorem dX11_goLetter_85 : decode cX11_goLetter 85 = .ok (.if_icmp .ne 13, 3) := by decide +kernel
theorem dX11_goLetter_88 : decode cX11_goLetter 88 = .ok (.aload_n 0, 1) := by decide +kernel
theorem dX11_goLetter_89 : decode cX11_goLetter 89 = .ok (.getfield 92, 3) := by decide +kernel
theorem dX11_goLetter_92 : decode cX11_goLetter 92 = .ok (.iload 4, 2) := by decide +kernel
theorem dX11_goLetter_94 : decode cX11_goLetter 94 = .ok (.iaload, 1) := by decide +kernel
theorem dX11_goLetter_95 : decode cX11_goLetter 95 = .ok (.goto 4, 3) := by decide +kernel
theorem dX11_goLetter_98 : decode cX11_goLetter 98 = .ok (.iconst (-1), 1) := by decide +kernel
theorem dX11_goLetter_99 : decode cX11_goLetter 99 = .ok (.istore_n 3, 1) := by decide +kernel
theorem dX11_goLetter_100 : decode cX11_goLetter 100 = .ok (.iinc 4 1, 3) := by decide +kernel
theorem dX11_goLetter_103 : decode cX11_goLetter 103 = .ok (.goto (-45), 3) := by decide +kernel
theorem dX11_goLetter_106 : decode cX11_goLetter 106 = .ok (.aload_n 0, 1) := by decide +kernel
theorem dX11_goLetter_107 : decode cX11_goLetter 107 = .ok (.iload_n 3, 1) := by decide +kernel
theorem dX11_goLetter_108 : decode cX11_goLetter 108 = .ok (.invokestatic 340, 3) := by decide +kernel
theorem dX11_goLetter_111 : decode cX11_goLetter 111 = .ok (.invokevirtual 336, 3) := by decide +kernel
theorem dX11_goLetter_114 : decode cX11_goLetter 114 = .ok (.return_, 1) := by decide +kernel
theorem dX11_sayCode_0 : decode cX11_sayCode 0 = .ok (.aload_n 0, 1) := by decide +kernel
theorem dX11_sayCode_1 : decode cX11_sayCode 1 = .ok (.iconst 0, 1) := by decide +kernel
theorem dX11_sayCode_2 : decode cX11_sayCode 2 = .ok (.putfield 143, 3) := by decide +kernel
theorem dX11_sayCode_5 : decode cX11_sayCode 5 = .ok (.iload_n 1, 1) := by decide +kernel
theorem dX11_sayCode_6 : decode cX11_sayCode 6 = .ok (.bipush 32, 2) := by decide +kernel
theorem dX11_sayCode_8 : decode cX11_sayCode 8 = .ok (.if_icmp .ne 25, 3) := by decide +kernel
theorem dX11_sayCode_11 : decode cX11_sayCode 11 = .ok (.aload_n 0, 1) := by decide +kernel
theorem dX11_sayCode_12 : decode cX11_sayCode 12 = .ok (.iconst 0, 1) := by decide +kernel
theorem dX11_sayCode_13 : decode cX11_sayCode 13 = .ok (.iconst 0, 1) := by decide +kernel
theorem dX11_sayCode_14 : decode cX11_sayCode 14 = .ok (.bipush 115, 2) := by decide +kernel
theorem dX11_sayCode_16 : decode cX11_sayCode 16 = .ok (.bipush 112, 2) := by decide +kernel
theorem dX11_sayCode_18 : decode cX11_sayCode 18 = .ok (.bipush 97, 2) := by decide +kernel
theorem dX11_sayCode_20 : decode cX11_sayCode 20 = .ok (.bipush 99, 2) := by decide +kernel
theorem dX11_sayCode_22 : decode cX11_sayCode 22 = .ok (.bipush 101, 2) := by decide +kernel
theorem dX11_sayCode_24 : decode cX11_sayCode 24 = .ok (.invokestatic 133, 3) := by decide +kernel
theorem dX11_sayCode_27 : decode cX11_sayCode 27 = .ok (.invokevirtual 160, 3) := by decide +kernel
theorem dX11_sayCode_30 : decode cX11_sayCode 30 = .ok (.goto 8, 3) := by decide +kernel
theorem dX11_sayCode_33 : decode cX11_sayCode 33 = .ok (.aload_n 0, 1) := by decide +kernel
theorem dX11_sayCode_34 : decode cX11_sayCode 34 = .ok (.iload_n 1, 1) := by decide +kernel
theorem dX11_sayCode_35 : decode cX11_sayCode 35 = .ok (.invokevirtual 146, 3) := by decide +kernel
theorem dX11_sayCode_38 : decode cX11_sayCode 38 = .ok (.aload_n 0, 1) := by decide +kernel
theorem dX11_sayCode_39 : decode cX11_sayCode 39 = .ok (.invokevirtual 203, 3) := by decide +kernel
theorem dX11_sayCode_42 : decode cX11_sayCode 42 = .ok (.return_, 1) := by decide +kernel
abbrev mX11_command : gM := (yX11_command, cX11_command, 2, (Option.none : Option FieldType), [])
theorem caX11_command : cal mX11_command 1 := ⟨xw 1848 (by decide +kernel) rfl, xw 102 (by decide +kernel) rfl, by decide, by decide +kernel⟩
theorem cvX11_command : calV mX11_command := ⟨xw 1847 (by decide +kernel) rfl, xw 63 (by decide +kernel) rfl⟩
abbrev mX11_goLetter : gM := (yX11_goLetter, cX11_goLetter, 5, (Option.none : Option FieldType), [])
theorem caX11_goLetter : cal mX11_goLetter 1 := ⟨xw 1933 (by decide +kernel) rfl, xw 102 (by decide +kernel) rfl, by decide, by decide +kernel⟩
theorem cvX11_goLetter : calV mX11_goLetter := ⟨xw 1932 (by decide +kernel) rfl, xw 82 (by decide +kernel) rfl⟩
abbrev mX11_sayCode : gM := (yX11_sayCode, cX11_sayCode, 2, (Option.none : Option FieldType), [])
theorem caX11_sayCode : cal mX11_sayCode 1 := ⟨xw 1925 (by decide +kernel) rfl, xw 102 (by decide +kernel) rfl, by decide, by decide +kernel⟩
theorem cvX11_sayCode : calV mX11_sayCode := ⟨xw 1924 (by decide +kernel) rfl, xw 80 (by decide +kernel) rfl⟩
theorem lkX11_352 : Cond.methodLink RX11 352 yX11_step ∈ XW := xw 1849 (by decide +kernel) rfl
theorem lkX11_358 : Cond.methodLink RX11 358 yX11_goRows ∈ XW := xw 1887 (by decide +kernel) rfl
theorem lkX11_367 : Cond.methodLink RX11 367 yX11_hush ∈ XW := xw 1902 (by decide +kernel) rfl
theorem lkX11_364 : Cond.methodLink RX11 364 yX11_act ∈ XW := xw 1898 (by decide +kernel) rfl
theorem lkX11_361 : Cond.methodLink RX11 361 yX11_goTab ∈ XW := xw 1891 (by decide +kernel) rfl
theorem lkX11_355 : Cond.methodLink RX11 355 yX11_goIn ∈ XW := xw 1883 (by decide +kernel) rfl
/-! BrailleDeskModel.command -/
theorem tX11_command {G : gG} (a0 : Nat) (h : hp) (a1 : Int32) (m : mm) (Q : hQ) (hF : okB (fX11_command a1 m) (pM gU Q a0 h)) : gS G mX11_command 8 0 0 [sr (some a0), si a1] (jn a0 h m) Q := by
  delta fX11_command at hF
  refine gS_at [some (sr (some a0)), some (si a1)] pl_X11 rfl (Nat.le_of_ble_eq_true rfl) rfl ?_
  refine v_iload_n (pc := 0) (i := 1) dX11_command_0 rfl rfl ?_
  refine v_iconst (pc := 1) (v := (1 : Int32)) dX11_command_1 rfl ?_
  refine v_icmp_eq (pc := 2) 11 dX11_command_2 rfl (fun hc => ?_) (fun hc => ?_)
  · replace hF := (okB_if hF).1 hc
    refine v_aload_n (pc := 11) (i := 0) dX11_command_11 rfl rfl ?_
    refine v_iload_n (pc := 12) (i := 1) dX11_command_12 rfl rfl ?_
    refine v_iconst (pc := 13) (v := (1 : Int32)) dX11_command_13 rfl ?_
    refine mg (X := fun q1 => gV G mX11_command 8 Q 22 [none, none] [si q1, sr (some a0)] (0) (0) (jn a0 h m)) hF (fun _ hj2 hF => ?_) (fun q1 hF => ?_)
    · refine v_icmp_ne (pc := 14) 21 dX11_command_14 rfl (fun hc => ?_) (fun hc => ?_)
      · replace hF := (okB_if hF).2 hc
        refine v_iconst (pc := 21) (v := (1 : Int32)) dX11_command_21 rfl ?_
        exact v_lle [none, none] trivial (hj2 (1 : Int32) (okB_some hF))
      replace hF := (okB_if hF).1 hc
      refine v_iconst (pc := 17) (v := (-1 : Int32)) dX11_command_17 rfl ?_
      refine v_goto (pc := 18) 22 dX11_command_18 rfl ?_
      exact v_lle [none, none] trivial (hj2 (-1 : Int32) (okB_some hF))
    refine chM_V (pc := 22) gU (as := [si q1]) (st := []) (N := mX11_step) (k := 0) (n := 0) (k1 := 0) (n1 := 0) dX11_command_22 lkX11_352 caX11_step cvX11_step rfl rfl (fun Q1 hq => tX11_step a0 h q1 m Q1 hq) ⟨by decide, by decide⟩ (Nat.le_of_ble_eq_true rfl) rfl hF (fun x3 m4 hF => ?_)
    show gV G mX11_command 8 Q 25 [none, none] [] (0) (0) (jn a0 h m4)
    refine v_goto (pc := 25) 229 dX11_command_25 rfl ?_
    exact v_ret (pc := 229) dX11_command_229 rfl (okr hF fun q => q)
  replace hF := (okB_if hF).2 hc
  refine v_iload_n (pc := 5) (i := 1) dX11_command_5 rfl rfl ?_
  refine v_bipush (pc := 6) (v := (8 : Int32)) dX11_command_6 rfl ?_
  refine v_icmp_ne (pc := 8) 28 dX11_command_8 rfl (fun hc => ?_) (fun hc => ?_)
  · replace hF := (okB_if hF).2 hc
    refine v_iload_n (pc := 28) (i := 1) dX11_command_28 rfl rfl ?_
    refine v_iconst (pc := 29) (v := (4 : Int32)) dX11_command_29 rfl ?_
    refine v_icmp_ne (pc := 30) 52 dX11_command_30 rfl (fun hc => ?_) (fun hc => ?_)
    · replace hF := (okB_if hF).2 hc
      refine v_iload_n (pc := 52) (i := 1) dX11_command_52 rfl rfl ?_
      refine v_bipush (pc := 53) (v := (32 : Int32)) dX11_command_53 rfl ?_
      refine v_icmp_ne (pc := 55) 65 dX11_command_55 rfl (fun hc => ?_) (fun hc => ?_)
      · replace hF := (okB_if hF).2 hc
        refine v_iload_n (pc := 65) (i := 1) dX11_command_65 rfl rfl ?_
        refine v_iconst (pc := 66) (v := (2 : Int32)) dX11_command_66 rfl ?_
        refine v_icmp_eq (pc := 67) 76 dX11_command_67 rfl (fun hc => ?_) (fun hc => ?_)
        · replace hF := (okB_if hF).1 hc
          refine v_aload_n (pc := 76) (i := 0) dX11_command_76 rfl rfl ?_
          refine v_iload_n (pc := 77) (i := 1) dX11_command_77 rfl rfl ?_
          refine v_iconst (pc := 78) (v := (2 : Int32)) dX11_command_78 rfl ?_
          refine mg (X := fun q5 => gV G mX11_command 8 Q 87 [none, none] [si q5, sr (some a0)] (0) (0) (jn a0 h m)) hF (fun _ hj6 hF => ?_) (fun q5 hF => ?_)
          · refine v_icmp_ne (pc := 79) 86 dX11_command_79 rfl (fun hc => ?_) (fun hc => ?_)
            · replace hF := (okB_if hF).2 hc
              refine v_iconst (pc := 86) (v := (1 : Int32)) dX11_command_86 rfl ?_
              exact v_lle [none, none] trivial (hj6 (1 : Int32) (okB_some hF))
            replace hF := (okB_if hF).1 hc
            refine v_iconst (pc := 82) (v := (-1 : Int32)) dX11_command_82 rfl ?_
            refine v_goto (pc := 83) 87 dX11_command_83 rfl ?_
            exact v_lle [none, none] trivial (hj6 (-1 : Int32) (okB_some hF))
          refine chM_V (pc := 87) gU (as := [si q5]) (st := []) (N := mX11_goRows) (k := 0) (n := 0) (k1 := 0) (n1 := 0) dX11_command_87 lkX11_358 caX11_goRows cvX11_goRows rfl rfl (fun Q1 hq => tX11_goRows a0 h q5 m Q1 hq) ⟨by decide, by decide⟩ (Nat.le_of_ble_eq_true rfl) rfl hF (fun x7 m8 hF => ?_)
          show gV G mX11_command 8 Q 90 [none, none] [] (0) (0) (jn a0 h m8)
          refine v_goto (pc := 90) 229 dX11_command_90 rfl ?_
          exact v_ret (pc := 229) dX11_command_229 rfl (okr hF fun q => q)
        replace hF := (okB_if hF).2 hc
        refine v_iload_n (pc := 70) (i := 1) dX11_command_70 rfl rfl ?_
        refine v_bipush (pc := 71) (v := (16 : Int32)) dX11_command_71 rfl ?_
        refine v_icmp_ne (pc := 73) 93 dX11_command_73 rfl (fun hc => ?_) (fun hc => ?_)
        · replace hF := (okB_if hF).2 hc
          refine v_iload_n (pc := 93) (i := 1) dX11_command_93 rfl rfl ?_
          refine v_bipush (pc := 94) (v := (30 : Int32)) dX11_command_94 rfl ?_
          refine v_icmp_ne (pc := 96) 106 dX11_command_96 rfl (fun hc => ?_) (fun hc => ?_)
          · replace hF := (okB_if hF).2 hc
            refine v_iload_n (pc := 106) (i := 1) dX11_command_106 rfl rfl ?_
            refine v_sipush (pc := 107) (v := (128 : Int32)) dX11_command_107 rfl ?_
            refine v_icmp_ne (pc := 110) 120 dX11_command_110 rfl (fun hc => ?_) (fun hc => ?_)
            · replace hF := (okB_if hF).2 hc
              refine v_iload_n (pc := 120) (i := 1) dX11_command_120 rfl rfl ?_
              refine v_bipush (pc := 121) (v := (64 : Int32)) dX11_command_121 rfl ?_
              refine v_icmp_ne (pc := 123) 133 dX11_command_123 rfl (fun hc => ?_) (fun hc => ?_)
              · replace hF := (okB_if hF).2 hc
                refine v_iload_n (pc := 133) (i := 1) dX11_command_133 rfl rfl ?_
                refine v_bipush (pc := 134) (v := (7 : Int32)) dX11_command_134 rfl ?_
                refine v_icmp_ne (pc := 136) 164 dX11_command_136 rfl (fun hc => ?_) (fun hc => ?_)
                · replace hF := (okB_if hF).2 hc
                  refine v_iload_n (pc := 164) (i := 1) dX11_command_164 rfl rfl ?_
                  refine v_bipush (pc := 165) (v := (56 : Int32)) dX11_command_165 rfl ?_
                  refine v_icmp_ne (pc := 167) 206 dX11_command_167 rfl (fun hc => ?_) (fun hc => ?_)
                  · replace hF := (okB_if hF).2 hc
                    refine v_iload_n (pc := 206) (i := 1) dX11_command_206 rfl rfl ?_
                    refine v_bipush (pc := 207) (v := (23 : Int32)) dX11_command_207 rfl ?_
                    refine v_icmp_ne (pc := 209) 229 dX11_command_209 rfl (fun hc => ?_) (fun hc => ?_)
                    · replace hF := (okB_if hF).2 hc
                      exact v_ret (pc := 229) dX11_command_229 rfl (okr hF fun q => q)
                    replace hF := (okB_if hF).1 hc
                    refine v_aload_n (pc := 212) (i := 0) dX11_command_212 rfl rfl ?_
                    refine v_iconst (pc := 213) (v := (0 : Int32)) dX11_command_213 rfl ?_
                    refine m_putI (pc := 214) (j := 29) dX11_command_214 flX11_143 rfl rfl rfl hF (fun m9 hF => ?_)
                    refine v_aload_n (pc := 217) (i := 0) dX11_command_217 rfl rfl ?_
                    refine v_aload_n (pc := 218) (i := 0) dX11_command_218 rfl rfl ?_
                    refine m_getI (pc := 219) (j := 20) dX11_command_219 flX11_128 rfl rfl ?_
                    refine chM_V (pc := 222) gU (as := [si (m9 20 0)]) (st := []) (N := mX11_partWords) (k := 0) (n := 0) (k1 := 0) (n1 := 0) dX11_command_222 lkX11_227 caX11_partWords cvX11_partWords rfl rfl (fun Q1 hq => tX11_partWords a0 h (m9 20 0) m9 Q1 hq) ⟨by decide, by decide⟩ (Nat.le_of_ble_eq_true rfl) rfl hF (fun x10 m11 hF => ?_)
                    show gV G mX11_command 8 Q 225 [some (sr (some a0)), some (si a1)] [] (0) (0) (jn a0 h m11)
                    refine v_aload_n (pc := 225) (i := 0) dX11_command_225 rfl rfl ?_
                    refine chM_V (pc := 226) gU (as := []) (st := []) (N := mX11_comeAnswer) (k := 0) (n := 0) (k1 := 0) (n1 := 0) dX11_command_226 lkX11_203 caX11_comeAnswer cvX11_comeAnswer rfl rfl (fun Q1 hq => tX11_comeAnswer a0 h m11 Q1 hq) ⟨by decide, by decide⟩ (Nat.le_of_ble_eq_true rfl) rfl hF (fun x12 m13 hF => ?_)
                    show gV G mX11_command 8 Q 229 [some (sr (some a0)), some (si a1)] [] (0) (0) (jn a0 h m13)
                    exact v_ret (pc := 229) dX11_command_229 rfl (okr hF fun q => q)
                  replace hF := (okB_if hF).1 hc
                  refine v_aload_n (pc := 170) (i := 0) dX11_command_170 rfl rfl ?_
                  refine chM_V (pc := 171) gU (as := []) (st := []) (N := mX11_layLine) (k := 0) (n := 0) (k1 := 0) (n1 := 0) dX11_command_171 lkX11_271 caX11_layLine cvX11_layLine rfl rfl (fun Q1 hq => tX11_layLine a0 h m Q1 hq) ⟨by decide, by decide⟩ (Nat.le_of_ble_eq_true rfl) rfl hF (fun x14 m15 hF => ?_)
                  show gV G mX11_command 8 Q 174 [some (sr (some a0)), some (si a1)] [] (0) (0) (jn a0 h m15)
                  refine v_aload_n (pc := 174) (i := 0) dX11_command_174 rfl rfl ?_
                  refine v_dup (pc := 175) dX11_command_175 rfl ?_
                  refine m_getI (pc := 176) (j := 25) dX11_command_176 flX11_274 rfl rfl ?_
                  refine v_aload_n (pc := 179) (i := 0) dX11_command_179 rfl rfl ?_
                  refine m_getI (pc := 180) (j := 25) dX11_command_180 flX11_274 rfl rfl ?_
                  refine v_bipush (pc := 183) (v := (10 : Int32)) dX11_command_183 rfl ?_
                  refine v_iadd (pc := 185) dX11_command_185 ?_
                  refine v_aload_n (pc := 186) (i := 0) dX11_command_186 rfl rfl ?_
                  refine m_getI (pc := 187) (j := 53) dX11_command_187 flX11_236 rfl rfl ?_
                  refine mg (X := fun q16 => gV G mX11_command 8 Q 199 [none, none] [si q16, si (m15 25 0), sr (some a0)] (0) (0) (jn a0 h m15)) hF (fun _ hj17 hF => ?_) (fun q16 hF => ?_)
                  · refine v_icmp_ge (pc := 190) 198 dX11_command_190 rfl (fun hc => ?_) (fun hc => ?_)
                    · replace hF := (okB_if hF).1 hc
                      refine v_iconst (pc := 198) (v := (0 : Int32)) dX11_command_198 rfl ?_
                      exact v_lle [none, none] trivial (hj17 (0 : Int32) (okB_some hF))
                    replace hF := (okB_if hF).2 hc
                    refine v_bipush (pc := 193) (v := (10 : Int32)) dX11_command_193 rfl ?_
                    refine v_goto (pc := 195) 199 dX11_command_195 rfl ?_
                    exact v_lle [none, none] trivial (hj17 (10 : Int32) (okB_some hF))
                  refine v_iadd (pc := 199) dX11_command_199 ?_
                  refine m_putI (pc := 200) (j := 25) dX11_command_200 flX11_274 rfl rfl rfl hF (fun m18 hF => ?_)
                  refine v_goto (pc := 203) 229 dX11_command_203 rfl ?_
                  exact v_ret (pc := 229) dX11_command_229 rfl (okr hF fun q => q)
                replace hF := (okB_if hF).1 hc
                refine v_aload_n (pc := 139) (i := 0) dX11_command_139 rfl rfl ?_
                refine v_dup (pc := 140) dX11_command_140 rfl ?_
                refine m_getI (pc := 141) (j := 25) dX11_command_141 flX11_274 rfl rfl ?_
                refine v_aload_n (pc := 144) (i := 0) dX11_command_144 rfl rfl ?_
                refine m_getI (pc := 145) (j := 25) dX11_command_145 flX11_274 rfl rfl ?_
                refine mg (X := fun q19 => gV G mX11_command 8 Q 157 [none, none] [si q19, si (m 25 0), sr (some a0)] (0) (0) (jn a0 h m)) hF (fun _ hj20 hF => ?_) (fun q19 hF => ?_)
                · refine v_if_le (pc := 148) 156 dX11_command_148 rfl (fun hc => ?_) (fun hc => ?_)
                  · replace hF := (okB_if hF).1 hc
                    refine v_iconst (pc := 156) (v := (0 : Int32)) dX11_command_156 rfl ?_
                    exact v_lle [none, none] trivial (hj20 (0 : Int32) (okB_some hF))
                  replace hF := (okB_if hF).2 hc
                  refine v_bipush (pc := 151) (v := (10 : Int32)) dX11_command_151 rfl ?_
                  refine v_goto (pc := 153) 157 dX11_command_153 rfl ?_
                  exact v_lle [none, none] trivial (hj20 (10 : Int32) (okB_some hF))
                refine v_isub (pc := 157) dX11_command_157 ?_
                refine m_putI (pc := 158) (j := 25) dX11_command_158 flX11_274 rfl rfl rfl hF (fun m21 hF => ?_)
                refine v_goto (pc := 161) 229 dX11_command_161 rfl ?_
                exact v_ret (pc := 229) dX11_command_229 rfl (okr hF fun q => q)
              replace hF := (okB_if hF).1 hc
              refine v_aload_n (pc := 126) (i := 0) dX11_command_126 rfl rfl ?_
              refine chM_V (pc := 127) gU (as := []) (st := []) (N := mX11_hush) (k := 0) (n := 0) (k1 := 0) (n1 := 0) dX11_command_127 lkX11_367 caX11_hush cvX11_hush rfl rfl (fun Q1 hq => tX11_hush a0 h m Q1 hq) ⟨by decide, by decide⟩ (Nat.le_of_ble_eq_true rfl) rfl hF (fun x22 m23 hF => ?_)
              show gV G mX11_command 8 Q 130 [some (sr (some a0)), some (si a1)] [] (0) (0) (jn a0 h m23)
              refine v_goto (pc := 130) 229 dX11_command_130 rfl ?_
              exact v_ret (pc := 229) dX11_command_229 rfl (okr hF fun q => q)
            replace hF := (okB_if hF).1 hc
            refine v_aload_n (pc := 113) (i := 0) dX11_command_113 rfl rfl ?_
            refine chM_V (pc := 114) gU (as := []) (st := []) (N := mX11_act) (k := 0) (n := 0) (k1 := 0) (n1 := 0) dX11_command_114 lkX11_364 caX11_act cvX11_act rfl rfl (fun Q1 hq => tX11_act a0 h m Q1 hq) ⟨by decide, by decide⟩ (Nat.le_of_ble_eq_true rfl) rfl hF (fun x24 m25 hF => ?_)
            show gV G mX11_command 8 Q 117 [some (sr (some a0)), some (si a1)] [] (0) (0) (jn a0 h m25)
            refine v_goto (pc := 117) 229 dX11_command_117 rfl ?_
            exact v_ret (pc := 229) dX11_command_229 rfl (okr hF fun q => q)
          replace hF := (okB_if hF).1 hc
          refine v_aload_n (pc := 99) (i := 0) dX11_command_99 rfl rfl ?_
          refine chM_V (pc := 100) gU (as := []) (st := []) (N := mX11_goTab) (k := 0) (n := 0) (k1 := 0) (n1 := 0) dX11_command_100 lkX11_361 caX11_goTab cvX11_goTab rfl rfl (fun Q1 hq => tX11_goTab a0 h m Q1 hq) ⟨by decide, by decide⟩ (Nat.le_of_ble_eq_true rfl) rfl hF (fun x26 m27 hF => ?_)
          show gV G mX11_command 8 Q 103 [some (sr (some a0)), some (si a1)] [] (0) (0) (jn a0 h m27)
          refine v_goto (pc := 103) 229 dX11_command_103 rfl ?_
          exact v_ret (pc := 229) dX11_command_229 rfl (okr hF fun q => q)
        replace hF := (okB_if hF).1 hc
        refine v_aload_n (pc := 76) (i := 0) dX11_command_76 rfl rfl ?_
        refine v_iload_n (pc := 77) (i := 1) dX11_command_77 rfl rfl ?_
        refine v_iconst (pc := 78) (v := (2 : Int32)) dX11_command_78 rfl ?_
        refine mg (X := fun q28 => gV G mX11_command 8 Q 87 [none, none] [si q28, sr (some a0)] (0) (0) (jn a0 h m)) hF (fun _ hj29 hF => ?_) (fun q28 hF => ?_)
        · refine v_icmp_ne (pc := 79) 86 dX11_command_79 rfl (fun hc => ?_) (fun hc => ?_)
          · replace hF := (okB_if hF).2 hc
            refine v_iconst (pc := 86) (v := (1 : Int32)) dX11_command_86 rfl ?_
            exact v_lle [none, none] trivial (hj29 (1 : Int32) (okB_some hF))
          replace hF := (okB_if hF).1 hc
          refine v_iconst (pc := 82) (v := (-1 : Int32)) dX11_command_82 rfl ?_
          refine v_goto (pc := 83) 87 dX11_command_83 rfl ?_
          exact v_lle [none, none] trivial (hj29 (-1 : Int32) (okB_some hF))
        refine chM_V (pc := 87) gU (as := [si q28]) (st := []) (N := mX11_goRows) (k := 0) (n := 0) (k1 := 0) (n1 := 0) dX11_command_87 lkX11_358 caX11_goRows cvX11_goRows rfl rfl (fun Q1 hq => tX11_goRows a0 h q28 m Q1 hq) ⟨by decide, by decide⟩ (Nat.le_of_ble_eq_true rfl) rfl hF (fun x30 m31 hF => ?_)
        show gV G mX11_command 8 Q 90 [none, none] [] (0) (0) (jn a0 h m31)
        refine v_goto (pc := 90) 229 dX11_command_90 rfl ?_
        exact v_ret (pc := 229) dX11_command_229 rfl (okr hF fun q => q)
      replace hF := (okB_if hF).1 hc
      refine v_aload_n (pc := 58) (i := 0) dX11_command_58 rfl rfl ?_
      refine chM_V (pc := 59) gU (as := []) (st := []) (N := mX11_goIn) (k := 0) (n := 0) (k1 := 0) (n1 := 0) dX11_command_59 lkX11_355 caX11_goIn cvX11_goIn rfl rfl (fun Q1 hq => tX11_goIn a0 h m Q1 hq) ⟨by decide, by decide⟩ (Nat.le_of_ble_eq_true rfl) rfl hF (fun x32 m33 hF => ?_)
      show gV G mX11_command 8 Q 62 [some (sr (some a0)), some (si a1)] [] (0) (0) (jn a0 h m33)
      refine v_goto (pc := 62) 229 dX11_command_62 rfl ?_
      exact v_ret (pc := 229) dX11_command_229 rfl (okr hF fun q => q)
    replace hF := (okB_if hF).1 hc
    refine v_aload_n (pc := 33) (i := 0) dX11_command_33 rfl rfl ?_
    refine v_aload_n (pc := 34) (i := 0) dX11_command_34 rfl rfl ?_
    refine m_getA (pc := 35) (j := 3) dX11_command_35 flX11_17 rfl (by decide) ?_
    refine v_aload_n (pc := 38) (i := 0) dX11_command_38 rfl rfl ?_
    refine m_getI (pc := 39) (j := 20) dX11_command_39 flX11_128 rfl rfl ?_
    refine m_iald (pc := 42) (j := 3) dX11_command_42 hF (fun x34 hF => ?_)
    refine cp_S (pc := 43) gL (as := []) (st := [si x34, sr (some a0)]) (N := mX11_none) (k := 0) (n := 0) (k1 := 0) (n1 := 0) dX11_command_43 lkX11_340 caX11_none csX11_none rfl (fun Q1 hq => tX11_none (jn a0 h m) Q1 hq) ⟨by decide, by decide⟩ (Nat.le_of_ble_eq_true rfl) rfl hF (fun x35 hF => ?_)
    show gV G mX11_command 8 Q 46 [some (sr (some a0)), some (si a1)] [sl x35, si x34, sr (some a0)] (0) (0) (jn a0 h m)
    refine chM_V (pc := 46) gU (as := [si x34, sl x35]) (st := []) (N := mX11_goOr) (k := 0) (n := 0) (k1 := 0) (n1 := 0) dX11_command_46 lkX11_336 caX11_goOr cvX11_goOr rfl rfl (fun Q1 hq => tX11_goOr a0 h x34 x35 m Q1 hq) ⟨by decide, by decide⟩ (Nat.le_of_ble_eq_true rfl) rfl hF (fun x36 m37 hF => ?_)
    show gV G mX11_command 8 Q 49 [some (sr (some a0)), some (si a1)] [] (0) (0) (jn a0 h m37)
    refine v_goto (pc := 49) 229 dX11_command_49 rfl ?_
    exact v_ret (pc := 229) dX11_command_229 rfl (okr hF fun q => q)
  replace hF := (okB_if hF).1 hc
  refine v_aload_n (pc := 11) (i := 0) dX11_command_11 rfl rfl ?_
  refine v_iload_n (pc := 12) (i := 1) dX11_command_12 rfl rfl ?_
  refine v_iconst (pc := 13) (v := (1 : Int32)) dX11_command_13 rfl ?_
  refine mg (X := fun q38 => gV G mX11_command 8 Q 22 [none, none] [si q38, sr (some a0)] (0) (0) (jn a0 h m)) hF (fun _ hj39 hF => ?_) (fun q38 hF => ?_)
  · refine v_icmp_ne (pc := 14) 21 dX11_command_14 rfl (fun hc => ?_) (fun hc => ?_)
    · replace hF := (okB_if hF).2 hc
      refine v_iconst (pc := 21) (v := (1 : Int32)) dX11_command_21 rfl ?_
      exact v_lle [none, none] trivial (hj39 (1 : Int32) (okB_some hF))
    replace hF := (okB_if hF).1 hc
    refine v_iconst (pc := 17) (v := (-1 : Int32)) dX11_command_17 rfl ?_
    refine v_goto (pc := 18) 22 dX11_command_18 rfl ?_
    exact v_lle [none, none] trivial (hj39 (-1 : Int32) (okB_some hF))
  refine chM_V (pc := 22) gU (as := [si q38]) (st := []) (N := mX11_step) (k := 0) (n := 0) (k1 := 0) (n1 := 0) dX11_command_22 lkX11_352 caX11_step cvX11_step rfl rfl (fun Q1 hq => tX11_step a0 h q38 m Q1 hq) ⟨by decide, by decide⟩ (Nat.le_of_ble_eq_true rfl) rfl hF (fun x40 m41 hF => ?_)
  show gV G mX11_command 8 Q 25 [none, none] [] (0) (0) (jn a0 h m41)
  refine v_goto (pc := 25) 229 dX11_command_25 rfl ?_
  exact v_ret (pc := 229) dX11_command_229 rfl (okr hF fun q => q)
/-! BrailleDeskModel.goLetter -/
theorem lX11_goLetter_4 {G : gG} {Q : hQ} {P : Int32 → Prop} {k n : Nat} (a0 : Nat) (h : hp) (c1 : Int32) (m : mm) (hJ : ∀ q : Int32, P q → gV G mX11_goLetter 7 Q 42 [some (sr (some a0)), none, some (si q), none, none] [] (k) (n) (jn a0 h m)) : ∀ (fu : Nat) (a : (Int32 × Int32)), okB (itr (fX11_goLetter_B4 c1 m) fu a) P → gV G mX11_goLetter 7 Q 4 [some (sr (some a0)), some (si c1), some (si a.1), some (si a.2), none] [] (k) (n) (jn a0 h m) :=
  lpg (X := fun (a : (Int32 × Int32)) => gV G mX11_goLetter 7 Q 4 [some (sr (some a0)), some (si c1), some (si a.1), some (si a.2), none] [] (k) (n) (jn a0 h m)) (fun a P2 hL hE hF => by
    delta fX11_goLetter_B4 at hF
    refine v_iload_n (pc := 4) (i := 3) dX11_goLetter_4 rfl rfl ?_
    refine v_bipush (pc := 5) (v := (7 : Int32)) dX11_goLetter_5 rfl ?_
    refine v_icmp_gt (pc := 7) 42 dX11_goLetter_7 rfl (fun hc => ?_) (fun hc => ?_)
    · replace hF := (okB_if hF).1 hc
      exact v_lle [some (sr (some a0)), none, some (si a.1), none, none] ⟨rfl, rfl, trivial⟩ (hJ a.1 (hE _ (okB_some hF)))
    replace hF := (okB_if hF).2 hc
    refine v_iload_n (pc := 10) (i := 3) dX11_goLetter_10 rfl rfl ?_
    refine cp_S (pc := 11) gI (as := [si a.2]) (st := []) (N := mX11_kindLetter) (k := k) (n := n) (k1 := 0) (n1 := 0) dX11_goLetter_11 lkX11_261 caX11_kindLetter csX11_kindLetter rfl (fun Q1 hq => tX11_kindLetter a.2 (jn a0 h m) Q1 hq) ⟨by decide, by decide⟩ (Nat.le_of_ble_eq_true rfl) rfl hF (fun x1 hF => ?_)
    show gV G mX11_goLetter 7 Q 14 [some (sr (some a0)), some (si c1), some (si a.1), some (si a.2), none] [si x1] (k) (n) (jn a0 h m)
    refine v_iconst (pc := 14) (v := (-1 : Int32)) dX11_goLetter_14 rfl ?_
    refine v_icmp_eq (pc := 15) 34 dX11_goLetter_15 rfl (fun hc => ?_) (fun hc => ?_)
    · replace hF := (okB_if hF).1 hc
      refine v_iload_n (pc := 34) (i := 2) dX11_goLetter_34 rfl rfl ?_
      refine v_istore_n (pc := 35) (i := 2) [some (sr (some a0)), some (si c1), some (si a.1), some (si a.2), none] dX11_goLetter_35 rfl (by decide) rfl rfl ?_
      refine v_iinc (pc := 36) (i := 3) (a.2 + (1 : Int32)) [some (sr (some a0)), some (si c1), some (si a.1), some (si (a.2 + (1 : Int32))), none] dX11_goLetter_36 rfl rfl rfl rfl ?_
      refine v_goto (pc := 39) 4 dX11_goLetter_39 rfl ?_
      exact v_lle [some (sr (some a0)), some (si c1), some (si a.1), some (si (a.2 + (1 : Int32))), none] ⟨rfl, rfl, rfl, rfl, trivial⟩ (hL (a.1, a.2 + (1 : Int32)) (okB_some hF))
    replace hF := (okB_if hF).2 hc
    refine v_aload_n (pc := 18) (i := 0) dX11_goLetter_18 rfl rfl ?_
    refine v_iload_n (pc := 19) (i := 3) dX11_goLetter_19 rfl rfl ?_
    refine cp_S (pc := 20) gI (as := [si a.2]) (st := [sr (some a0)]) (N := mX11_kindLetter) (k := k) (n := n) (k1 := 0) (n1 := 0) dX11_goLetter_20 lkX11_261 caX11_kindLetter csX11_kindLetter rfl (fun Q1 hq => tX11_kindLetter a.2 (jn a0 h m) Q1 hq) ⟨by decide, by decide⟩ (Nat.le_of_ble_eq_true rfl) rfl hF (fun x2 hF => ?_)
    show gV G mX11_goLetter 7 Q 23 [some (sr (some a0)), some (si c1), some (si a.1), some (si a.2), none] [si x2, sr (some a0)] (k) (n) (jn a0 h m)
    refine cpM_V (pc := 23) gI (as := [si x2]) (st := []) (N := mX11_points) (k := k) (n := n) (k1 := 0) (n1 := 0) dX11_goLetter_23 lkX11_248 caX11_points cvX11_points rfl rfl (fun Q1 hq => tX11_points a0 h x2 m Q1 hq) ⟨by decide, by decide⟩ (Nat.le_of_ble_eq_true rfl) rfl hF (fun x3 hF => ?_)
    show gV G mX11_goLetter 7 Q 26 [some (sr (some a0)), some (si c1), some (si a.1), some (si a.2), none] [si x3] (k) (n) (jn a0 h m)
    refine v_iload_n (pc := 26) (i := 1) dX11_goLetter_26 rfl rfl ?_
    refine v_icmp_ne (pc := 27) 34 dX11_goLetter_27 rfl (fun hc => ?_) (fun hc => ?_)
    · replace hF := (okB_if hF).2 hc
      refine v_iload_n (pc := 34) (i := 2) dX11_goLetter_34 rfl rfl ?_
      refine v_istore_n (pc := 35) (i := 2) [some (sr (some a0)), some (si c1), some (si a.1), some (si a.2), none] dX11_goLetter_35 rfl (by decide) rfl rfl ?_
      refine v_iinc (pc := 36) (i := 3) (a.2 + (1 : Int32)) [some (sr (some a0)), some (si c1), some (si a.1), some (si (a.2 + (1 : Int32))), none] dX11_goLetter_36 rfl rfl rfl rfl ?_
      refine v_goto (pc := 39) 4 dX11_goLetter_39 rfl ?_
      exact v_lle [some (sr (some a0)), some (si c1), some (si a.1), some (si (a.2 + (1 : Int32))), none] ⟨rfl, rfl, rfl, rfl, trivial⟩ (hL (a.1, a.2 + (1 : Int32)) (okB_some hF))
    replace hF := (okB_if hF).1 hc
    refine v_iload_n (pc := 30) (i := 3) dX11_goLetter_30 rfl rfl ?_
    refine v_goto (pc := 31) 35 dX11_goLetter_31 rfl ?_
    refine v_istore_n (pc := 35) (i := 2) [some (sr (some a0)), some (si c1), some (si a.2), some (si a.2), none] dX11_goLetter_35 rfl (by decide) rfl rfl ?_
    refine v_iinc (pc := 36) (i := 3) (a.2 + (1 : Int32)) [some (sr (some a0)), some (si c1), some (si a.2), some (si (a.2 + (1 : Int32))), none] dX11_goLetter_36 rfl rfl rfl rfl ?_
    refine v_goto (pc := 39) 4 dX11_goLetter_39 rfl ?_
    exact v_lle [some (sr (some a0)), some (si c1), some (si a.2), some (si (a.2 + (1 : Int32))), none] ⟨rfl, rfl, rfl, rfl, trivial⟩ (hL (a.2, a.2 + (1 : Int32)) (okB_some hF)))
theorem lX11_goLetter_58 {G : gG} {Q : hQ} {P : Int32 → Prop} {k n : Nat} (a0 : Nat) (h : hp) (c2 : Int32) (m : mm) (hJ : ∀ q : Int32, P q → gV G mX11_goLetter 7 Q 106 [some (sr (some a0)), none, none, some (si q), none] [] (k) (n) (jn a0 h m)) : ∀ (fu : Nat) (a : (Int32 × Int32)), okB (itr (fX11_goLetter_B58 c2 m) fu a) P → gV G mX11_goLetter 7 Q 58 [some (sr (some a0)), none, some (si c2), some (si a.1), some (si a.2)] [] (k) (n) (jn a0 h m) :=
  lpg (X := fun (a : (Int32 × Int32)) => gV G mX11_goLetter 7 Q 58 [some (sr (some a0)), none, some (si c2), some (si a.1), some (si a.2)] [] (k) (n) (jn a0 h m)) (fun a P2 hL hE hF => by
    delta fX11_goLetter_B58 at hF
    refine v_iload (pc := 58) (i := 4) dX11_goLetter_58 rfl ?_
    refine v_aload_n (pc := 60) (i := 0) dX11_goLetter_60 rfl rfl ?_
    refine m_getI (pc := 61) (j := 50) dX11_goLetter_61 flX11_122 rfl rfl ?_
    refine v_icmp_ge (pc := 64) 106 dX11_goLetter_64 rfl (fun hc => ?_) (fun hc => ?_)
    · replace hF := (okB_if hF).1 hc
      exact v_lle [some (sr (some a0)), none, none, some (si a.1), none] ⟨rfl, rfl, trivial⟩ (hJ a.1 (hE _ (okB_some hF)))
    replace hF := (okB_if hF).2 hc
    refine v_iload_n (pc := 67) (i := 3) dX11_goLetter_67 rfl rfl ?_
    refine v_iconst (pc := 68) (v := (-1 : Int32)) dX11_goLetter_68 rfl ?_
    refine v_icmp_ne (pc := 69) 106 dX11_goLetter_69 rfl (fun hc => ?_) (fun hc => ?_)
    · replace hF := (okB_if hF).2 hc
      exact v_lle [some (sr (some a0)), none, none, some (si a.1), none] ⟨rfl, rfl, trivial⟩ (hJ a.1 (hE _ (okB_some hF)))
    replace hF := (okB_if hF).1 hc
    refine v_aload_n (pc := 72) (i := 0) dX11_goLetter_72 rfl rfl ?_
    refine m_getA (pc := 73) (j := 2) dX11_goLetter_73 flX11_13 rfl (by decide) ?_
    refine v_aload_n (pc := 76) (i := 0) dX11_goLetter_76 rfl rfl ?_
    refine m_getA (pc := 77) (j := 49) dX11_goLetter_77 flX11_92 rfl (by decide) ?_
    refine v_iload (pc := 80) (i := 4) dX11_goLetter_80 rfl ?_
    refine m_iald (pc := 82) (j := 49) dX11_goLetter_82 hF (fun x1 hF => ?_)
    refine m_iald (pc := 83) (j := 2) dX11_goLetter_83 hF (fun x2 hF => ?_)
    refine v_iload_n (pc := 84) (i := 2) dX11_goLetter_84 rfl rfl ?_
    refine v_icmp_ne (pc := 85) 98 dX11_goLetter_85 rfl (fun hc => ?_) (fun hc => ?_)
    · replace hF := (okB_if hF).2 hc
      refine v_iconst (pc := 98) (v := (-1 : Int32)) dX11_goLetter_98 rfl ?_
      refine v_istore_n (pc := 99) (i := 3) [some (sr (some a0)), none, some (si c2), some (si (-1 : Int32)), some (si a.2)] dX11_goLetter_99 rfl (by decide) rfl rfl ?_
      refine v_iinc (pc := 100) (i := 4) (a.2 + (1 : Int32)) [some (sr (some a0)), none, some (si c2), some (si (-1 : Int32)), some (si (a.2 + (1 : Int32)))] dX11_goLetter_100 rfl rfl rfl rfl ?_
      refine v_goto (pc := 103) 58 dX11_goLetter_103 rfl ?_
      exact v_lle [some (sr (some a0)), none, some (si c2), some (si (-1 : Int32)), some (si (a.2 + (1 : Int32)))] ⟨rfl, rfl, rfl, rfl, trivial⟩ (hL ((-1 : Int32), a.2 + (1 : Int32)) (okB_some hF))
    replace hF := (okB_if hF).1 hc
    refine v_aload_n (pc := 88) (i := 0) dX11_goLetter_88 rfl rfl ?_
    refine m_getA (pc := 89) (j := 49) dX11_goLetter_89 flX11_92 rfl (by decide) ?_
    refine v_iload (pc := 92) (i := 4) dX11_goLetter_92 rfl ?_
    refine m_iald (pc := 94) (j := 49) dX11_goLetter_94 hF (fun x3 hF => ?_)
    refine v_goto (pc := 95) 99 dX11_goLetter_95 rfl ?_
    refine v_istore_n (pc := 99) (i := 3) [some (sr (some a0)), none, some (si c2), some (si x3), some (si a.2)] dX11_goLetter_99 rfl (by decide) rfl rfl ?_
    refine v_iinc (pc := 100) (i := 4) (a.2 + (1 : Int32)) [some (sr (some a0)), none, some (si c2), some (si x3), some (si (a.2 + (1 : Int32)))] dX11_goLetter_100 rfl rfl rfl rfl ?_
    refine v_goto (pc := 103) 58 dX11_goLetter_103 rfl ?_
    exact v_lle [some (sr (some a0)), none, some (si c2), some (si x3), some (si (a.2 + (1 : Int32)))] ⟨rfl, rfl, rfl, rfl, trivial⟩ (hL (x3, a.2 + (1 : Int32)) (okB_some hF)))
theorem tX11_goLetter {G : gG} (a0 : Nat) (h : hp) (a1 : Int32) (m : mm) (Q : hQ) (hF : okB (fX11_goLetter a1 m) (pM gU Q a0 h)) : gS G mX11_goLetter 7 0 0 [sr (some a0), si a1] (jn a0 h m) Q := by
  delta fX11_goLetter at hF
  refine gS_at [some (sr (some a0)), some (si a1), none, none, none] pl_X11 rfl (Nat.le_of_ble_eq_true rfl) rfl ?_
  refine v_iconst (pc := 0) (v := (-1 : Int32)) dX11_goLetter_0 rfl ?_
  refine v_istore_n (pc := 1) (i := 2) [some (sr (some a0)), some (si a1), some (si (-1 : Int32)), none, none] dX11_goLetter_1 rfl (by decide) rfl rfl ?_
  refine v_iconst (pc := 2) (v := (0 : Int32)) dX11_goLetter_2 rfl ?_
  refine v_istore_n (pc := 3) (i := 3) [some (sr (some a0)), some (si a1), some (si (-1 : Int32)), some (si (0 : Int32)), none] dX11_goLetter_3 rfl (by decide) rfl rfl ?_
  refine mg (X := fun q1 => gV G mX11_goLetter 7 Q 42 [some (sr (some a0)), none, some (si q1), none, none] [] (0) (0) (jn a0 h m)) hF (fun _ hj9 hF => v_lle [some (sr (some a0)), some (si a1), some (si (-1 : Int32)), some (si (0 : Int32)), none] ⟨rfl, rfl, rfl, rfl, trivial⟩ (lX11_goLetter_4 a0 h a1 m hj9 FU ((-1 : Int32), (0 : Int32)) hF)) (fun q1 hF => ?_)
  refine v_iload_n (pc := 42) (i := 2) dX11_goLetter_42 rfl rfl ?_
  refine v_iconst (pc := 43) (v := (-1 : Int32)) dX11_goLetter_43 rfl ?_
  refine v_icmp_ne (pc := 44) 48 dX11_goLetter_44 rfl (fun hc => ?_) (fun hc => ?_)
  · replace hF := (okB_if hF).2 hc
    refine v_iconst (pc := 48) (v := (-1 : Int32)) dX11_goLetter_48 rfl ?_
    refine v_istore_n (pc := 49) (i := 3) [some (sr (some a0)), none, some (si q1), some (si (-1 : Int32)), none] dX11_goLetter_49 rfl (by decide) rfl rfl ?_
    refine v_aload_n (pc := 50) (i := 0) dX11_goLetter_50 rfl rfl ?_
    refine chM_V (pc := 51) gI (as := []) (st := []) (N := mX11_layCursor) (k := 0) (n := 0) (k1 := 0) (n1 := 0) dX11_goLetter_51 lkX11_328 caX11_layCursor cvX11_layCursor rfl rfl (fun Q1 hq => tX11_layCursor a0 h m Q1 hq) ⟨by decide, by decide⟩ (Nat.le_of_ble_eq_true rfl) rfl hF (fun x2 m3 hF => ?_)
    show gV G mX11_goLetter 7 Q 54 [some (sr (some a0)), none, some (si q1), some (si (-1 : Int32)), none] [si x2] (0) (0) (jn a0 h m3)
    refine v_iconst (pc := 54) (v := (1 : Int32)) dX11_goLetter_54 rfl ?_
    refine v_iadd (pc := 55) dX11_goLetter_55 ?_
    refine v_istore (pc := 56) (i := 4) [some (sr (some a0)), none, some (si q1), some (si (-1 : Int32)), some (si (x2 + (1 : Int32)))] dX11_goLetter_56 (by decide) rfl rfl ?_
    refine mg (X := fun q4 => gV G mX11_goLetter 7 Q 106 [some (sr (some a0)), none, none, some (si q4), none] [] (0) (0) (jn a0 h m3)) hF (fun _ hj8 hF => v_lle [some (sr (some a0)), none, some (si q1), some (si (-1 : Int32)), some (si (x2 + (1 : Int32)))] ⟨rfl, rfl, rfl, rfl, trivial⟩ (lX11_goLetter_58 a0 h q1 m3 hj8 FU ((-1 : Int32), x2 + (1 : Int32)) hF)) (fun q4 hF => ?_)
    refine v_aload_n (pc := 106) (i := 0) dX11_goLetter_106 rfl rfl ?_
    refine v_iload_n (pc := 107) (i := 3) dX11_goLetter_107 rfl rfl ?_
    refine cp_S (pc := 108) gL (as := []) (st := [si q4, sr (some a0)]) (N := mX11_none) (k := 0) (n := 0) (k1 := 0) (n1 := 0) dX11_goLetter_108 lkX11_340 caX11_none csX11_none rfl (fun Q1 hq => tX11_none (jn a0 h m3) Q1 hq) ⟨by decide, by decide⟩ (Nat.le_of_ble_eq_true rfl) rfl hF (fun x5 hF => ?_)
    show gV G mX11_goLetter 7 Q 111 [some (sr (some a0)), none, none, some (si q4), none] [sl x5, si q4, sr (some a0)] (0) (0) (jn a0 h m3)
    refine chM_V (pc := 111) gU (as := [si q4, sl x5]) (st := []) (N := mX11_goOr) (k := 0) (n := 0) (k1 := 0) (n1 := 0) dX11_goLetter_111 lkX11_336 caX11_goOr cvX11_goOr rfl rfl (fun Q1 hq => tX11_goOr a0 h q4 x5 m3 Q1 hq) ⟨by decide, by decide⟩ (Nat.le_of_ble_eq_true rfl) rfl hF (fun x6 m7 hF => ?_)
    show gV G mX11_goLetter 7 Q 114 [some (sr (some a0)), none, none, some (si q4), none] [] (0) (0) (jn a0 h m7)
    exact v_ret (pc := 114) dX11_goLetter_114 rfl (okr hF fun q => q)
  replace hF := (okB_if hF).1 hc
  exact v_ret (pc := 47) dX11_goLetter_47 rfl (okr hF fun q => q)
/-! BrailleDeskModel.sayCode -/
theorem tX11_sayCode {G : gG} (a0 : Nat) (h : hp) (a1 : Int32) (m : mm) (Q : hQ) (hF : okB (fX11_sayCode a1 m) (pM gU Q a0 h)) : gS G mX11_sayCode 3 0 0 [sr (some a0), si a1] (jn a0 h m) Q := by
  delta fX11_sayCode at hF
  refine gS_at [some (sr (some a0)), some (si a1)] pl_X11 rfl (Nat.le_of_ble_eq_true rfl) rfl ?_
  refine v_aload_n (pc := 0) (i := 0) dX11_sayCode_0 rfl rfl ?_
  refine v_iconst (pc := 1) (v := (0 : Int32)) dX11_sayCode_1 rfl ?_
  refine m_putI (pc := 2) (j := 29) dX11_sayCode_2 flX11_143 rfl rfl rfl hF (fun m1 hF => ?_)
  refine v_iload_n (pc := 5) (i := 1) dX11_sayCode_5 rfl rfl ?_
  refine v_bipush (pc := 6) (v := (32 : Int32)) dX11_sayCode_6 rfl ?_
  refine mg (X := fun q2 => gV G mX11_sayCode 3 Q 38 [some (sr (some a0)), none] [] (0) (0) (jn a0 h q2)) hF (fun _ hj3 hF => ?_) (fun q2 hF => ?_)
  · refine v_icmp_ne (pc := 8) 33 dX11_sayCode_8 rfl (fun hc => ?_) (fun hc => ?_)
    · replace hF := (okB_if hF).2 hc
      refine v_aload_n (pc := 33) (i := 0) dX11_sayCode_33 rfl rfl ?_
      refine v_iload_n (pc := 34) (i := 1) dX11_sayCode_34 rfl rfl ?_
      refine chM_V (pc := 35) gU (as := [si a1]) (st := []) (N := mX11_put) (k := 0) (n := 0) (k1 := 0) (n1 := 0) dX11_sayCode_35 lkX11_146 caX11_put cvX11_put rfl rfl (fun Q1 hq => tX11_put a0 h a1 m1 Q1 hq) ⟨by decide, by decide⟩ (Nat.le_of_ble_eq_true rfl) rfl hF (fun x4 m5 hF => ?_)
      show gV G mX11_sayCode 3 Q 38 [some (sr (some a0)), some (si a1)] [] (0) (0) (jn a0 h m5)
      exact v_lle [some (sr (some a0)), none] ⟨rfl, trivial⟩ (hj3 m5 (okB_some hF))
    replace hF := (okB_if hF).1 hc
    refine v_aload_n (pc := 11) (i := 0) dX11_sayCode_11 rfl rfl ?_
    refine v_iconst (pc := 12) (v := (0 : Int32)) dX11_sayCode_12 rfl ?_
    refine v_iconst (pc := 13) (v := (0 : Int32)) dX11_sayCode_13 rfl ?_
    refine v_bipush (pc := 14) (v := (115 : Int32)) dX11_sayCode_14 rfl ?_
    refine v_bipush (pc := 16) (v := (112 : Int32)) dX11_sayCode_16 rfl ?_
    refine v_bipush (pc := 18) (v := (97 : Int32)) dX11_sayCode_18 rfl ?_
    refine v_bipush (pc := 20) (v := (99 : Int32)) dX11_sayCode_20 rfl ?_
    refine v_bipush (pc := 22) (v := (101 : Int32)) dX11_sayCode_22 rfl ?_
    refine cp_S (pc := 24) gL (as := [si (0 : Int32), si (0 : Int32), si (115 : Int32), si (112 : Int32), si (97 : Int32), si (99 : Int32), si (101 : Int32)]) (st := [sr (some a0)]) (N := mX11_word) (k := 0) (n := 0) (k1 := 0) (n1 := 0) dX11_sayCode_24 lkX11_133 caX11_word csX11_word rfl (fun Q1 hq => tX11_word (0 : Int32) (0 : Int32) (115 : Int32) (112 : Int32) (97 : Int32) (99 : Int32) (101 : Int32) (jn a0 h m1) Q1 hq) ⟨by decide, by decide⟩ (Nat.le_of_ble_eq_true rfl) rfl hF (fun x6 hF => ?_)
    show gV G mX11_sayCode 3 Q 27 [some (sr (some a0)), some (si a1)] [sl x6, sr (some a0)] (0) (0) (jn a0 h m1)
    refine chM_V (pc := 27) gU (as := [sl x6]) (st := []) (N := mX11_partWord) (k := 0) (n := 0) (k1 := 0) (n1 := 0) dX11_sayCode_27 lkX11_160 caX11_partWord cvX11_partWord rfl rfl (fun Q1 hq => tX11_partWord a0 h x6 m1 Q1 hq) ⟨by decide, by decide⟩ (Nat.le_of_ble_eq_true rfl) rfl hF (fun x7 m8 hF => ?_)
    show gV G mX11_sayCode 3 Q 30 [some (sr (some a0)), some (si a1)] [] (0) (0) (jn a0 h m8)
    refine v_goto (pc := 30) 38 dX11_sayCode_30 rfl ?_
    exact v_lle [some (sr (some a0)), none] ⟨rfl, trivial⟩ (hj3 m8 (okB_some hF))
  refine v_aload_n (pc := 38) (i := 0) dX11_sayCode_38 rfl rfl ?_
  refine chM_V (pc := 39) gU (as := []) (st := []) (N := mX11_comeAnswer) (k := 0) (n := 0) (k1 := 0) (n1 := 0) dX11_sayCode_39 lkX11_203 caX11_comeAnswer cvX11_comeAnswer rfl rfl (fun Q1 hq => tX11_comeAnswer a0 h q2 Q1 hq) ⟨by decide, by decide⟩ (Nat.le_of_ble_eq_true rfl) rfl hF (fun x9 m10 hF => ?_)
  show gV G mX11_sayCode 3 Q 42 [some (sr (some a0)), none] [] (0) (0) (jn a0 h m10)
  exact v_ret (pc := 42) dX11_sayCode_42 rfl (okr hF fun q => q)
