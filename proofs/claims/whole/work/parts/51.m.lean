/-! ===== methods: their functions and rows ===== -/
theorem dX11_act_0 : decode cX11_act 0 = .ok (.aload_n 0, 1) := by decide +kernel
theorem dX11_act_1 : decode cX11_act 1 = .ok (.getfield 13, 3) := by decide +kernel
theorem dX11_act_4 : decode cX11_act 4 = .ok (.aload_n 0, 1) := by decide +kernel
theorem dX11_act_5 : decode cX11_act 5 = .ok (.getfield 128, 3) := by decide +kernel
theorem dX11_act_8 : decode cX11_act 8 = .ok (.iaload, 1) := by decide +kernel
theorem dX11_act_9 : decode cX11_act 9 = .ok (.istore_n 1, 1) := by decide +kernel
theorem dX11_act_10 : decode cX11_act 10 = .ok (.iload_n 1, 1) := by decide +kernel
theorem dX11_act_11 : decode cX11_act 11 = .ok (.invokestatic 343, 3) := by decide +kernel
theorem dX11_act_14 : decode cX11_act 14 = .ok (.ifCond .ne 11, 3) := by decide +kernel
theorem dX11_act_17 : decode cX11_act 17 = .ok (.aload_n 0, 1) := by decide +kernel
theorem dX11_act_18 : decode cX11_act 18 = .ok (.invokestatic 340, 3) := by decide +kernel
theorem dX11_act_21 : decode cX11_act 21 = .ok (.invokevirtual 322, 3) := by decide +kernel
theorem dX11_act_24 : decode cX11_act 24 = .ok (.return_, 1) := by decide +kernel
theorem dX11_act_25 : decode cX11_act 25 = .ok (.aload_n 0, 1) := by decide +kernel
theorem dX11_act_26 : decode cX11_act 26 = .ok (.aload_n 0, 1) := by decide +kernel
theorem dX11_act_27 : decode cX11_act 27 = .ok (.getfield 128, 3) := by decide +kernel
theorem dX11_act_30 : decode cX11_act 30 = .ok (.putfield 105, 3) := by decide +kernel
theorem dX11_act_33 : decode cX11_act 33 = .ok (.aload_n 0, 1) := by decide +kernel
theorem dX11_act_34 : decode cX11_act 34 = .ok (.iconst 0, 1) := by decide +kernel
theorem dX11_act_35 : decode cX11_act 35 = .ok (.putfield 143, 3) := by decide +kernel
theorem dX11_act_38 : decode cX11_act 38 = .ok (.iload_n 1, 1) := by decide +kernel
theorem dX11_act_39 : decode cX11_act 39 = .ok (.iconst 2, 1) := by decide +kernel
theorem dX11_act_40 : decode cX11_act 40 = .ok (.if_icmp .ne 40, 3) := by decide +kernel
theorem dX11_act_43 : decode cX11_act 43 = .ok (.aload_n 0, 1) := by decide +kernel
theorem dX11_act_44 : decode cX11_act 44 = .ok (.getfield 41, 3) := by decide +kernel
theorem dX11_act_47 : decode cX11_act 47 = .ok (.aload_n 0, 1) := by decide +kernel
theorem dX11_act_48 : decode cX11_act 48 = .ok (.getfield 128, 3) := by decide +kernel
theorem dX11_act_51 : decode cX11_act 51 = .ok (.dup2, 1) := by decide +kernel
theorem dX11_act_52 : decode cX11_act 52 = .ok (.iaload, 1) := by decide +kernel
theorem dX11_act_53 : decode cX11_act 53 = .ok (.iconst 1, 1) := by decide +kernel
theorem dX11_act_54 : decode cX11_act 54 = .ok (.iadd, 1) := by decide +kernel
theorem dX11_act_55 : decode cX11_act 55 = .ok (.iastore, 1) := by decide +kernel
theorem dX11_act_56 : decode cX11_act 56 = .ok (.aload_n 0, 1) := by decide +kernel
theorem dX11_act_57 : decode cX11_act 57 = .ok (.bipush 112, 2) := by decide +kernel
theorem dX11_act_59 : decode cX11_act 59 = .ok (.bipush 114, 2) := by decide +kernel
theorem dX11_act_61 : decode cX11_act 61 = .ok (.bipush 101, 2) := by decide +kernel
theorem dX11_act_63 : decode cX11_act 63 = .ok (.bipush 115, 2) := by decide +kernel
theorem dX11_act_65 : decode cX11_act 65 = .ok (.bipush 115, 2) := by decide +kernel
theorem dX11_act_67 : decode cX11_act 67 = .ok (.bipush 101, 2) := by decide +kernel
theorem dX11_act_69 : decode cX11_act 69 = .ok (.bipush 100, 2) := by decide +kernel
theorem dX11_act_71 : decode cX11_act 71 = .ok (.invokestatic 133, 3) := by decide +kernel
theorem dX11_act_74 : decode cX11_act 74 = .ok (.invokevirtual 160, 3) := by decide +kernel
theorem dX11_act_77 : decode cX11_act 77 = .ok (.goto 83, 3) := by decide +kernel
theorem dX11_act_80 : decode cX11_act 80 = .ok (.iload_n 1, 1) := by decide +kernel
theorem dX11_act_81 : decode cX11_act 81 = .ok (.iconst 3, 1) := by decide +kernel
theorem dX11_act_82 : decode cX11_act 82 = .ok (.if_icmp .ne 45, 3) := by decide +kernel
theorem dX11_act_85 : decode cX11_act 85 = .ok (.aload_n 0, 1) := by decide +kernel
theorem dX11_act_86 : decode cX11_act 86 = .ok (.getfield 38, 3) := by decide +kernel
theorem dX11_act_89 : decode cX11_act 89 = .ok (.aload_n 0, 1) := by decide +kernel
theorem dX11_act_90 : decode cX11_act 90 = .ok (.getfield 128, 3) := by decide +kernel
theorem dX11_act_93 : decode cX11_act 93 = .ok (.aload_n 0, 1) := by decide +kernel
theorem dX11_act_94 : decode cX11_act 94 = .ok (.getfield 38, 3) := by decide +kernel
theorem dX11_act_97 : decode cX11_act 97 = .ok (.aload_n 0, 1) := by decide +kernel
theorem dX11_act_98 : decode cX11_act 98 = .ok (.getfield 128, 3) := by decide +kernel
theorem dX11_act_101 : decode cX11_act 101 = .ok (.baload, 1) := by decide +kernel
theorem dX11_act_102 : decode cX11_act 102 = .ok (.ifCond .ne 7, 3) := by decide +kernel
theorem dX11_act_105 : decode cX11_act 105 = .ok (.iconst 1, 1) := by decide +kernel
theorem dX11_act_106 : decode cX11_act 106 = .ok (.goto 4, 3) := by decide +kernel
theorem dX11_act_109 : decode cX11_act 109 = .ok (.iconst 0, 1) := by decide +kernel
theorem dX11_act_110 : decode cX11_act 110 = .ok (.bastore, 1) := by decide +kernel
theorem dX11_act_111 : decode cX11_act 111 = .ok (.aload_n 0, 1) := by decide +kernel
theorem dX11_act_112 : decode cX11_act 112 = .ok (.aload_n 0, 1) := by decide +kernel
theorem dX11_act_113 : decode cX11_act 113 = .ok (.getfield 38, 3) := by decide +kernel
theorem dX11_act_116 : decode cX11_act 116 = .ok (.aload_n 0, 1) := by decide +kernel
theorem dX11_act_117 : decode cX11_act 117 = .ok (.getfield 128, 3) := by decide +kernel
theorem dX11_act_120 : decode cX11_act 120 = .ok (.baload, 1) := by decide +kernel
theorem dX11_act_121 : decode cX11_act 121 = .ok (.invokevirtual 171, 3) := by decide +kernel
theorem dX11_act_124 : decode cX11_act 124 = .ok (.goto 36, 3) := by decide +kernel
theorem dX11_act_127 : decode cX11_act 127 = .ok (.aload_n 0, 1) := by decide +kernel
theorem dX11_act_128 : decode cX11_act 128 = .ok (.iconst 1, 1) := by decide +kernel
theorem dX11_act_129 : decode cX11_act 129 = .ok (.putfield 267, 3) := by decide +kernel
theorem dX11_act_132 : decode cX11_act 132 = .ok (.aload_n 0, 1) := by decide +kernel
theorem dX11_act_133 : decode cX11_act 133 = .ok (.iconst 0, 1) := by decide +kernel
theorem dX11_act_134 : decode cX11_act 134 = .ok (.putfield 346, 3) := by decide +kernel
theorem dX11_act_137 : decode cX11_act 137 = .ok (.aload_n 0, 1) := by decide +kernel
theorem dX11_act_138 : decode cX11_act 138 = .ok (.iconst 0, 1) := by decide +kernel
theorem dX11_act_139 : decode cX11_act 139 = .ok (.putfield 349, 3) := by decide +kernel
theorem dX11_act_142 : decode cX11_act 142 = .ok (.aload_n 0, 1) := by decide +kernel
theorem dX11_act_143 : decode cX11_act 143 = .ok (.iconst 0, 1) := by decide +kernel
theorem dX11_act_144 : decode cX11_act 144 = .ok (.iconst 0, 1) := by decide +kernel
theorem dX11_act_145 : decode cX11_act 145 = .ok (.iconst 0, 1) := by decide +kernel
theorem dX11_act_146 : decode cX11_act 146 = .ok (.bipush 116, 2) := by decide +kernel
theorem dX11_act_148 : decode cX11_act 148 = .ok (.bipush 121, 2) := by decide +kernel
theorem dX11_act_150 : decode cX11_act 150 = .ok (.bipush 112, 2) := by decide +kernel
theorem dX11_act_152 : decode cX11_act 152 = .ok (.bipush 101, 2) := by decide +kernel
theorem dX11_act_154 : decode cX11_act 154 = .ok (.invokestatic 133, 3) := by decide +kernel
theorem dX11_act_157 : decode cX11_act 157 = .ok (.invokevirtual 160, 3) := by decide +kernel
theorem dX11_act_160 : decode cX11_act 160 = .ok (.aload_n 0, 1) := by decide +kernel
theorem dX11_act_161 : decode cX11_act 161 = .ok (.invokevirtual 203, 3) := by decide +kernel
theorem dX11_act_164 : decode cX11_act 164 = .ok (.return_, 1) := by decide +kernel
theorem dX11_command_0 : decode cX11_command 0 = .ok (.iload_n 1, 1) := by decide +kernel
theorem dX11_command_1 : decode cX11_command 1 = .ok (.iconst 1, 1) := by decide +kernel
theorem dX11_command_2 : decode cX11_command 2 = .ok (.if_icmp .eq 9, 3) := by decide +kernel
theorem dX11_command_5 : decode cX11_command 5 = .ok (.iload_n 1, 1) := by decide +kernel
theorem dX11_command_6 : decode cX11_command 6 = .ok (.bipush 8, 2) := by decide +kernel
theorem dX11_command_8 : decode cX11_command 8 = .ok (.if_icmp .ne 20, 3) := by decide +kernel
theorem dX11_command_11 : decode cX11_command 11 = .ok (.aload_n 0, 1) := by decide +kernel
theorem dX11_command_12 : decode cX11_command 12 = .ok (.iload_n 1, 1) := by decide +kernel
theorem dX11_command_13 : decode cX11_command 13 = .ok (.iconst 1, 1) := by decide +kernel
theorem dX11_command_14 : decode cX11_command 14 = .ok (.if_icmp .ne 7, 3) := by decide +kernel
theorem dX11_command_17 : decode cX11_command 17 = .ok (.iconst (-1), 1) := by decide +kernel
theorem dX11_command_18 : decode cX11_command 18 = .ok (.goto 4, 3) := by decide +kernel
theorem dX11_command_21 : decode cX11_command 21 = .ok (.iconst 1, 1) := by decide +kernel
theorem dX11_command_22 : decode cX11_command 22 = .ok (.invokevirtual 352, 3) := by decide +kernel
theorem dX11_command_25 : decode cX11_command 25 = .ok (.goto 204, 3) := by decide +kernel
theorem dX11_command_28 : decode cX11_command 28 = .ok (.iload_n 1, 1) := by decide +kernel
theorem dX11_command_29 : decode cX11_command 29 = .ok (.iconst 4, 1) := by decide +kernel
theorem dX11_command_30 : decode cX11_command 30 = .ok (.if_icmp .ne 22, 3) := by decide +kernel
theorem dX11_command_33 : decode cX11_command 33 = .ok (.aload_n 0, 1) := by decide +kernel
theorem dX11_command_34 : decode cX11_command 34 = .ok (.aload_n 0, 1) := by decide +kernel
theorem dX11_command_35 : decode cX11_command 35 = .ok (.getfield 17, 3) := by decide +kernel
theorem dX11_command_38 : decode cX11_command 38 = .ok (.aload_n 0, 1) := by decide +kernel
theorem dX11_command_39 : decode cX11_command 39 = .ok (.getfield 128, 3) := by decide +kernel
theorem dX11_command_42 : decode cX11_command 42 = .ok (.iaload, 1) := by decide +kernel
theorem dX11_command_43 : decode cX11_command 43 = .ok (.invokestatic 340, 3) := by decide +kernel
theorem dX11_command_46 : decode cX11_command 46 = .ok (.invokevirtual 336, 3) := by decide +kernel
theorem dX11_command_49 : decode cX11_command 49 = .ok (.goto 180, 3) := by decide +kernel
theorem dX11_command_52 : decode cX11_command 52 = .ok (.iload_n 1, 1) := by decide +kernel
theorem dX11_command_53 : decode cX11_command 53 = .ok (.bipush 32, 2) := by decide +kernel
theorem dX11_command_55 : decode cX11_command 55 = .ok (.if_icmp .ne 10, 3) := by decide +kernel
theorem dX11_command_58 : decode cX11_command 58 = .ok (.aload_n 0, 1) := by decide +kernel
theorem dX11_command_59 : decode cX11_command 59 = .ok (.invokevirtual 355, 3) := by decide +kernel
theorem dX11_command_62 : decode cX11_command 62 = .ok (.goto 167, 3) := by decide +kernel
theorem dX11_command_65 : decode cX11_command 65 = .ok (.iload_n 1, 1) := by decide +kernel
theorem dX11_command_66 : decode cX11_command 66 = .ok (.iconst 2, 1) := by decide +kernel
theorem dX11_command_67 : decode cX11_command 67 = .ok (.if_icmp .eq 9, 3) := by decide +kernel
theorem dX11_command_70 : decode cX11_command 70 = .ok (.iload_n 1, 1) := by decide +kernel
theorem dX11_command_71 : decode cX11_command 71 = .ok (.bipush 16, 2) := by decide +kernel
theorem dX11_command_73 : decode cX11_command 73 = .ok (.if_icmp .ne 20, 3) := by decide +kernel
theorem dX11_command_76 : decode cX11_command 76 = .ok (.aload_n 0, 1) := by decide +kernel
theorem dX11_command_77 : decode cX11_command 77 = .ok (.iload_n 1, 1) := by decide +kernel
theorem dX11_command_78 : decode cX11_command 78 = .ok (.iconst 2, 1) := by decide +kernel
theorem dX11_command_79 : decode cX11_command 79 = .ok (.if_icmp .ne 7, 3) := by decide +kernel
theorem dX11_command_82 : decode cX11_command 82 = .ok (.iconst (-1), 1) := by decide +kernel
theorem dX11_command_83 : decode cX11_command 83 = .ok (.goto 4, 3) := by decide +kernel
theorem dX11_command_86 : decode cX11_command 86 = .ok (.iconst 1, 1) := by decide +kernel
theorem dX11_command_87 : decode cX11_command 87 = .ok (.invokevirtual 358, 3) := by decide +kernel
theorem dX11_command_90 : decode cX11_command 90 = .ok (.goto 139, 3) := by decide +kernel
theorem dX11_command_93 : decode cX11_command 93 = .ok (.iload_n 1, 1) := by decide +kernel
theorem dX11_command_94 : decode cX11_command 94 = .ok (.bipush 30, 2) := by decide +kernel
theorem dX11_command_96 : decode cX11_command 96 = .ok (.if_icmp .ne 10, 3) := by decide +kernel
theorem dX11_command_99 : decode cX11_command 99 = .ok (.aload_n 0, 1) := by decide +kernel
theorem dX11_command_100 : decode cX11_command 100 = .ok (.invokevirtual 361, 3) := by decide +kernel
theorem dX11_command_103 : decode cX11_command 103 = .ok (.goto 126, 3) := by decide +kernel
theorem dX11_command_106 : decode cX11_command 106 = .ok (.iload_n 1, 1) := by decide +kernel
theorem dX11_command_107 : decode cX11_command 107 = .ok (.sipush 128, 3) := by decide +kernel
theorem dX11_command_110 : decode cX11_command 110 = .ok (.if_icmp .ne 10, 3) := by decide +kernel
theorem dX11_command_113 : decode cX11_command 113 = .ok (.aload_n 0, 1) := by decide +kernel
theorem dX11_command_114 : decode cX11_command 114 = .ok (.invokevirtual 364, 3) := by decide +kernel
theorem dX11_command_117 : decode cX11_command 117 = .ok (.goto 112, 3) := by decide +kernel
theorem dX11_command_120 : decode cX11_command 120 = .ok (.iload_n 1, 1) := by decide +kernel
theorem dX11_command_121 : decode cX11_command 121 = .ok (.bipush 64, 2) := by decide +kernel
theorem dX11_command_123 : decode cX11_command 123 = .ok (.if_icmp .ne 10, 3) := by decide +kernel
theorem dX11_command_126 : decode cX11_command 126 = .ok (.aload_n 0, 1) := by decide +kernel
theorem dX11_command_127 : decode cX11_command 127 = .ok (.invokevirtual 367, 3) := by decide +kernel
theorem dX11_command_130 : decode cX11_command 130 = .ok (.goto 99, 3) := by decide +kernel
theorem dX11_command_133 : decode cX11_command 133 = .ok (.iload_n 1, 1) := by decide +kernel
theorem dX11_command_134 : decode cX11_command 134 = .ok (.bipush 7, 2) := by decide +kernel
theorem dX11_command_136 : decode cX11_command 136 = .ok (.if_icmp .ne 28, 3) := by decide +kernel
theorem dX11_command_139 : decode cX11_command 139 = .ok (.aload_n 0, 1) := by decide +kernel
theorem dX11_command_140 : decode cX11_command 140 = .ok (.dup, 1) := by decide +kernel
theorem dX11_command_141 : decode cX11_command 141 = .ok (.getfield 274, 3) := by decide +kernel
theorem dX11_command_144 : decode cX11_command 144 = .ok (.aload_n 0, 1) := by decide +kernel
theorem dX11_command_145 : decode cX11_command 145 = .ok (.getfield 274, 3) := by decide +kernel
theorem dX11_command_148 : decode cX11_command 148 = .ok (.ifCond .le 8, 3) := by decide +kernel
theorem dX11_command_151 : decode cX11_command 151 = .ok (.bipush 10, 2) := by decide +kernel
theorem dX11_command_153 : decode cX11_command 153 = .ok (.goto 4, 3) := by decide +kernel
theorem dX11_command_156 : decode cX11_command 156 = .ok (.iconst 0, 1) := by decide +kernel
theorem dX11_command_157 : decode cX11_command 157 = .ok (.isub, 1) := by decide +kernel
theorem dX11_command_158 : decode cX11_command 158 = .ok (.putfield 274, 3) := by decide +kernel
theorem dX11_command_161 : decode cX11_command 161 = .ok (.goto 68, 3) := by decide +kernel
theorem dX11_command_164 : decode cX11_command 164 = .ok (.iload_n 1, 1) := by decide +kernel
theorem dX11_command_165 : decode cX11_command 165 = .ok (.bipush 56, 2) := by decide +kernel
theorem dX11_command_167 : decode cX11_command 167 = .ok (.if_icmp .ne 39, 3) := by decide +kernel
theorem dX11_command_170 : decode cX11_command 170 = .ok (.aload_n 0, 1) := by decide +kernel
theorem dX11_command_171 : decode cX11_command 171 = .ok (.invokevirtual 271, 3) := by decide +kernel
theorem dX11_command_174 : decode cX11_command 174 = .ok (.aload_n 0, 1) := by decide +kernel
theorem dX11_command_175 : decode cX11_command 175 = .ok (.dup, 1) := by decide +kernel
theorem dX11_command_176 : decode cX11_command 176 = .ok (.getfield 274, 3) := by decide +kernel
theorem dX11_command_179 : decode cX11_command 179 = .ok (.aload_n 0, 1) := by decide +kernel
theorem dX11_command_180 : decode cX11_command 180 = .ok (.getfield 274, 3) := by decide +kernel
theorem dX11_command_183 : decode cX11_command 183 = .ok (.bipush 10, 2) := by decide +kernel
theorem dX11_command_185 : decode cX11_command 185 = .ok (.iadd, 1) := by decide +kernel
theorem dX11_command_186 : decode cX11_command 186 = .ok (.aload_n 0, 1) := by decide +kernel
theorem dX11_command_187 : decode cX11_command 187 = .ok (.getfield 236, 3) := by decide +kernel
theorem dX11_command_190 : decode cX11_command 190 = .ok (.if_icmp .ge 8, 3) := by decide +kernel
theorem dX11_command_193 : decode cX11_command 193 = .ok (.bipush 10, 2) := by decide +kernel
theorem dX11_command_195 : decode cX11_command 195 = .ok (.goto 4, 3) := by decide +kernel
theorem dX11_command_198 : decode cX11_command 198 = .ok (.iconst 0, 1) := by decide +kernel
theorem dX11_command_199 : decode cX11_command 199 = .ok (.iadd, 1) := by decide +kernel
theorem dX11_command_200 : decode cX11_command 200 = .ok (.putfield 274, 3) := by decide +kernel
theorem dX11_command_203 : decode cX11_command 203 = .ok (.goto 26, 3) := by decide +kernel
theorem dX11_command_206 : decode cX11_command 206 = .ok (.iload_n 1, 1) := by decide +kernel
theorem dX11_command_207 : decode cX11_command 207 = .ok (.bipush 23, 2) := by decide +kernel
theorem dX11_command_209 : decode cX11_command 209 = .ok (.if_icmp .ne 20, 3) := by decide +kernel
theorem dX11_command_212 : decode cX11_command 212 = .ok (.aload_n 0, 1) := by decide +kernel
theorem dX11_command_213 : decode cX11_command 213 = .ok (.iconst 0, 1) := by decide +kernel
theorem dX11_command_214 : decode cX11_command 214 = .ok (.putfield 143, 3) := by decide +kernel
theorem dX11_command_217 : decode cX11_command 217 = .ok (.aload_n 0, 1) := by decide +kernel
theorem dX11_command_218 : decode cX11_command 218 = .ok (.aload_n 0, 1) := by decide +kernel
theorem dX11_command_219 : decode cX11_command 219 = .ok (.getfield 128, 3) := by decide +kernel
theorem dX11_command_222 : decode cX11_command 222 = .ok (.invokevirtual 227, 3) := by decide +kernel
theorem dX11_command_225 : decode cX11_command 225 = .ok (.aload_n 0, 1) := by decide +kernel
theorem dX11_command_226 : decode cX11_command 226 = .ok (.invokevirtual 203, 3) := by decide +kernel
theorem dX11_command_229 : decode cX11_command 229 = .ok (.return_, 1) := by decide +kernel
abbrev mX11_act : gM := (yX11_act, cX11_act, 2, (Option.none : Option FieldType), [])
theorem caX11_act : cal mX11_act 0 := ⟨xw 1901 (by decide +kernel) rfl, xw 102 (by decide +kernel) rfl, by decide, by decide +kernel⟩
theorem cvX11_act : calV mX11_act := ⟨xw 1900 (by decide +kernel) rfl, xw 74 (by decide +kernel) rfl⟩
abbrev mX11_command : gM := (yX11_command, cX11_command, 2, (Option.none : Option FieldType), [])
theorem caX11_command : cal mX11_command 1 := ⟨xw 1848 (by decide +kernel) rfl, xw 102 (by decide +kernel) rfl, by decide, by decide +kernel⟩
theorem cvX11_command : calV mX11_command := ⟨xw 1847 (by decide +kernel) rfl, xw 63 (by decide +kernel) rfl⟩
theorem flX11_346 : fl RX11 346 10 23 := ⟨by decide, by decide, xw 1420 (by decide +kernel) rfl⟩
theorem flX11_349 : fl RX11 349 10 24 := ⟨by decide, by decide, xw 1421 (by decide +kernel) rfl⟩
theorem lkX11_367 : Cond.methodLink RX11 367 yX11_hush ∈ XW := xw 1902 (by decide +kernel) rfl
theorem lkX11_364 : Cond.methodLink RX11 364 yX11_act ∈ XW := xw 1898 (by decide +kernel) rfl
theorem lkX11_361 : Cond.methodLink RX11 361 yX11_goTab ∈ XW := xw 1891 (by decide +kernel) rfl
theorem lkX11_358 : Cond.methodLink RX11 358 yX11_goRows ∈ XW := xw 1887 (by decide +kernel) rfl
theorem lkX11_355 : Cond.methodLink RX11 355 yX11_goIn ∈ XW := xw 1883 (by decide +kernel) rfl
theorem lkX11_352 : Cond.methodLink RX11 352 yX11_step ∈ XW := xw 1849 (by decide +kernel) rfl
/-! BrailleDeskModel.act -/
def fX11_act (a0 : Nat) (h : hp) : Option (Unit × hp) :=
  (oGR 10 2 (some a0) h).bind fun x1 =>
  (oGI 10 20 (some a0) h).bind fun x2 =>
  (oIL x1 x2 h).bind fun x3 =>
  (fX11_canFocus x3).bind fun x4 =>
  if x4 = 0 then
  ((fX11_none).bind fun x38 =>
  (oOb 10 (some a0) h).bind fun b =>
  o2 (fX11_say b x38 h) fun _ h40 =>
  some (((), h40)))
  else
  (oGI 10 20 (some a0) h).bind fun x5 =>
  (oPI 10 21 (some a0) x5 h).bind fun h6 =>
  (oPI 10 29 (some a0) (0 : Int32) h6).bind fun h7 =>
  Option.bind (α := hp)
  (if x3 = (2 : Int32) then
  ((oGR 10 11 (some a0) h7).bind fun x29 =>
  (oGI 10 20 (some a0) h7).bind fun x30 =>
  (oIL x29 x30 h7).bind fun x31 =>
  (oIS x29 x30 (x31 + (1 : Int32)) h7).bind fun h32 =>
  (fX11_word (112 : Int32) (114 : Int32) (101 : Int32) (115 : Int32) (115 : Int32) (101 : Int32) (100 : Int32)).bind fun x33 =>
  (oOb 10 (some a0) h32).bind fun b =>
  o2 (fX11_partWord b x33 h32) fun _ h35 =>
  some h35)
  else
  if x3 = (3 : Int32) then
  ((oGR 10 10 (some a0) h7).bind fun x16 =>
  (oGI 10 20 (some a0) h7).bind fun x17 =>
  (oGR 10 10 (some a0) h7).bind fun x18 =>
  (oGI 10 20 (some a0) h7).bind fun x19 =>
  (oZL x18 x19 h7).bind fun x20 =>
  Option.bind (α := Int32)
  (if x20 = 0 then
  (some (1 : Int32))
  else
  some (0 : Int32))
  fun q21 =>
  (oZS x16 x17 q21 h7).bind fun h23 =>
  (oGR 10 10 (some a0) h23).bind fun x24 =>
  (oGI 10 20 (some a0) h23).bind fun x25 =>
  (oZL x24 x25 h23).bind fun x26 =>
  (oOb 10 (some a0) h23).bind fun b =>
  o2 (fX11_partOn b x26 h23) fun _ h28 =>
  some h28)
  else
  (oPZ 10 22 (some a0) (1 : Int32) h7).bind fun h10 =>
  (oPZ 10 23 (some a0) (0 : Int32) h10).bind fun h11 =>
  (oPZ 10 24 (some a0) (0 : Int32) h11).bind fun h12 =>
  (fX11_word (0 : Int32) (0 : Int32) (0 : Int32) (116 : Int32) (121 : Int32) (112 : Int32) (101 : Int32)).bind fun x13 =>
  (oOb 10 (some a0) h12).bind fun b =>
  o2 (fX11_partWord b x13 h12) fun _ h15 =>
  some h15)
  fun q8 =>
  (oOb 10 (some a0) q8).bind fun b =>
  o2 (fX11_comeAnswer b q8) fun _ h37 =>
  some (((), h37))
theorem tX11_act {G : gG} (a0 : Nat) (h : hp) (Q : hQ) (hF : okB (fX11_act a0 h) (pH gU Q)) : gS G mX11_act 4 0 0 [sr (some a0)] h Q := by
  delta fX11_act at hF
  refine gS_at [some (sr (some a0)), none] pl_X11 rfl (Nat.le_of_ble_eq_true rfl) rfl ?_
  refine v_aload_n (pc := 0) (i := 0) dX11_act_0 rfl rfl ?_
  refine s_getR (pc := 1) dX11_act_1 flX11_13 rfl hF (fun x1 hF => ?_)
  refine v_aload_n (pc := 4) (i := 0) dX11_act_4 rfl rfl ?_
  refine s_getI (pc := 5) dX11_act_5 flX11_128 rfl hF (fun x2 hF => ?_)
  refine s_iald (pc := 8) dX11_act_8 hF (fun x3 hF => ?_)
  refine v_istore_n (pc := 9) (i := 1) [some (sr (some a0)), some (si x3)] dX11_act_9 rfl (by decide) rfl rfl ?_
  refine v_iload_n (pc := 10) (i := 1) dX11_act_10 rfl rfl ?_
  refine cp_S (pc := 11) gI (as := [si x3]) (st := []) (k := 0) (n := 0) dX11_act_11 lkX11_343 caX11_canFocus csX11_canFocus rfl (fun Q1 hq => tX11_canFocus x3 h Q1 hq) ⟨by decide, by decide⟩ (Nat.le_of_ble_eq_true rfl) rfl hF (fun x4 hF => ?_)
  show gV G mX11_act 4 Q 14 [some (sr (some a0)), some (si x3)] [si x4] (0) (0) h
  refine v_if_ne (pc := 14) 25 dX11_act_14 rfl (fun hc => ?_) (fun hc => ?_)
  · replace hF := (okB_if hF).2 hc
    refine v_aload_n (pc := 25) (i := 0) dX11_act_25 rfl rfl ?_
    refine v_aload_n (pc := 26) (i := 0) dX11_act_26 rfl rfl ?_
    refine s_getI (pc := 27) dX11_act_27 flX11_128 rfl hF (fun x5 hF => ?_)
    refine s_putI (pc := 30) dX11_act_30 flX11_105 (Or.inl rfl) rfl hF (fun h6 hF => ?_)
    refine v_aload_n (pc := 33) (i := 0) dX11_act_33 rfl rfl ?_
    refine v_iconst (pc := 34) (v := (0 : Int32)) dX11_act_34 rfl ?_
    refine s_putI (pc := 35) dX11_act_35 flX11_143 (Or.inl rfl) rfl hF (fun h7 hF => ?_)
    refine v_iload_n (pc := 38) (i := 1) dX11_act_38 rfl rfl ?_
    refine v_iconst (pc := 39) (v := (2 : Int32)) dX11_act_39 rfl ?_
    refine mg (X := fun q8 => gV G mX11_act 4 Q 160 [some (sr (some a0)), none] [] (0) (0) q8) hF (fun _ hj9 hF => ?_) (fun q8 hF => ?_)
    · refine v_icmp_ne (pc := 40) 80 dX11_act_40 rfl (fun hc => ?_) (fun hc => ?_)
      · replace hF := (okB_if hF).2 hc
        refine v_iload_n (pc := 80) (i := 1) dX11_act_80 rfl rfl ?_
        refine v_iconst (pc := 81) (v := (3 : Int32)) dX11_act_81 rfl ?_
        refine v_icmp_ne (pc := 82) 127 dX11_act_82 rfl (fun hc => ?_) (fun hc => ?_)
        · replace hF := (okB_if hF).2 hc
          refine v_aload_n (pc := 127) (i := 0) dX11_act_127 rfl rfl ?_
          refine v_iconst (pc := 128) (v := (1 : Int32)) dX11_act_128 rfl ?_
          refine s_putZ (pc := 129) dX11_act_129 flX11_267 (Or.inl rfl) rfl hF (fun h10 hF => ?_)
          refine v_aload_n (pc := 132) (i := 0) dX11_act_132 rfl rfl ?_
          refine v_iconst (pc := 133) (v := (0 : Int32)) dX11_act_133 rfl ?_
          refine s_putZ (pc := 134) dX11_act_134 flX11_346 (Or.inl rfl) rfl hF (fun h11 hF => ?_)
          refine v_aload_n (pc := 137) (i := 0) dX11_act_137 rfl rfl ?_
          refine v_iconst (pc := 138) (v := (0 : Int32)) dX11_act_138 rfl ?_
          refine s_putZ (pc := 139) dX11_act_139 flX11_349 (Or.inl rfl) rfl hF (fun h12 hF => ?_)
          refine v_aload_n (pc := 142) (i := 0) dX11_act_142 rfl rfl ?_
          refine v_iconst (pc := 143) (v := (0 : Int32)) dX11_act_143 rfl ?_
          refine v_iconst (pc := 144) (v := (0 : Int32)) dX11_act_144 rfl ?_
          refine v_iconst (pc := 145) (v := (0 : Int32)) dX11_act_145 rfl ?_
          refine v_bipush (pc := 146) (v := (116 : Int32)) dX11_act_146 rfl ?_
          refine v_bipush (pc := 148) (v := (121 : Int32)) dX11_act_148 rfl ?_
          refine v_bipush (pc := 150) (v := (112 : Int32)) dX11_act_150 rfl ?_
          refine v_bipush (pc := 152) (v := (101 : Int32)) dX11_act_152 rfl ?_
          refine cp_S (pc := 154) gL (as := [si (0 : Int32), si (0 : Int32), si (0 : Int32), si (116 : Int32), si (121 : Int32), si (112 : Int32), si (101 : Int32)]) (st := [sr (some a0)]) (k := 0) (n := 0) dX11_act_154 lkX11_133 caX11_word csX11_word rfl (fun Q1 hq => tX11_word (0 : Int32) (0 : Int32) (0 : Int32) (116 : Int32) (121 : Int32) (112 : Int32) (101 : Int32) h12 Q1 hq) ⟨by decide, by decide⟩ (Nat.le_of_ble_eq_true rfl) rfl hF (fun x13 hF => ?_)
          show gV G mX11_act 4 Q 157 [some (sr (some a0)), some (si x3)] [sl x13, sr (some a0)] (0) (0) h12
          refine ch_V (pc := 157) gU (as := [sl x13]) (st := []) (ci := 10) (k := 0) (n := 0) dX11_act_157 lkX11_160 caX11_partWord cvX11_partWord rfl (by decide) rfl (fun b Q1 hq => tX11_partWord b x13 h12 Q1 hq) ⟨by decide, by decide⟩ (Nat.le_of_ble_eq_true rfl) rfl hF (fun x14 h15 hF => ?_)
          show gV G mX11_act 4 Q 160 [some (sr (some a0)), some (si x3)] [] (0) (0) h15
          exact v_lle [some (sr (some a0)), none] ⟨rfl, trivial⟩ (hj9 _ (okB_some hF))
        replace hF := (okB_if hF).1 hc
        refine v_aload_n (pc := 85) (i := 0) dX11_act_85 rfl rfl ?_
        refine s_getR (pc := 86) dX11_act_86 flX11_38 rfl hF (fun x16 hF => ?_)
        refine v_aload_n (pc := 89) (i := 0) dX11_act_89 rfl rfl ?_
        refine s_getI (pc := 90) dX11_act_90 flX11_128 rfl hF (fun x17 hF => ?_)
        refine v_aload_n (pc := 93) (i := 0) dX11_act_93 rfl rfl ?_
        refine s_getR (pc := 94) dX11_act_94 flX11_38 rfl hF (fun x18 hF => ?_)
        refine v_aload_n (pc := 97) (i := 0) dX11_act_97 rfl rfl ?_
        refine s_getI (pc := 98) dX11_act_98 flX11_128 rfl hF (fun x19 hF => ?_)
        refine s_zald (pc := 101) dX11_act_101 hF (fun x20 hF => ?_)
        refine mg (X := fun q21 => gV G mX11_act 4 Q 110 [some (sr (some a0)), none] [si q21, si x17, sr x16] (0) (0) h7) hF (fun _ hj22 hF => ?_) (fun q21 hF => ?_)
        · refine v_if_ne (pc := 102) 109 dX11_act_102 rfl (fun hc => ?_) (fun hc => ?_)
          · replace hF := (okB_if hF).2 hc
            refine v_iconst (pc := 109) (v := (0 : Int32)) dX11_act_109 rfl ?_
            exact v_lle [some (sr (some a0)), none] ⟨rfl, trivial⟩ (hj22 _ (okB_some hF))
          replace hF := (okB_if hF).1 hc
          refine v_iconst (pc := 105) (v := (1 : Int32)) dX11_act_105 rfl ?_
          refine v_goto (pc := 106) 110 dX11_act_106 rfl ?_
          exact v_lle [some (sr (some a0)), none] ⟨rfl, trivial⟩ (hj22 _ (okB_some hF))
        refine s_zast (pc := 110) dX11_act_110 hF (fun h23 hF => ?_)
        refine v_aload_n (pc := 111) (i := 0) dX11_act_111 rfl rfl ?_
        refine v_aload_n (pc := 112) (i := 0) dX11_act_112 rfl rfl ?_
        refine s_getR (pc := 113) dX11_act_113 flX11_38 rfl hF (fun x24 hF => ?_)
        refine v_aload_n (pc := 116) (i := 0) dX11_act_116 rfl rfl ?_
        refine s_getI (pc := 117) dX11_act_117 flX11_128 rfl hF (fun x25 hF => ?_)
        refine s_zald (pc := 120) dX11_act_120 hF (fun x26 hF => ?_)
        refine ch_V (pc := 121) gU (as := [si x26]) (st := []) (ci := 10) (k := 0) (n := 0) dX11_act_121 lkX11_171 caX11_partOn cvX11_partOn rfl (by decide) rfl (fun b Q1 hq => tX11_partOn b x26 h23 Q1 hq) ⟨by decide, by decide⟩ (Nat.le_of_ble_eq_true rfl) rfl hF (fun x27 h28 hF => ?_)
        show gV G mX11_act 4 Q 124 [some (sr (some a0)), none] [] (0) (0) h28
        refine v_goto (pc := 124) 160 dX11_act_124 rfl ?_
        exact v_lle [some (sr (some a0)), none] ⟨rfl, trivial⟩ (hj9 _ (okB_some hF))
      replace hF := (okB_if hF).1 hc
      refine v_aload_n (pc := 43) (i := 0) dX11_act_43 rfl rfl ?_
      refine s_getR (pc := 44) dX11_act_44 flX11_41 rfl hF (fun x29 hF => ?_)
      refine v_aload_n (pc := 47) (i := 0) dX11_act_47 rfl rfl ?_
      refine s_getI (pc := 48) dX11_act_48 flX11_128 rfl hF (fun x30 hF => ?_)
      refine v_dup2 (pc := 51) dX11_act_51 rfl rfl ?_
      refine s_iald (pc := 52) dX11_act_52 hF (fun x31 hF => ?_)
      refine v_iconst (pc := 53) (v := (1 : Int32)) dX11_act_53 rfl ?_
      refine v_iadd (pc := 54) dX11_act_54 ?_
      refine s_iast (pc := 55) dX11_act_55 hF (fun h32 hF => ?_)
      refine v_aload_n (pc := 56) (i := 0) dX11_act_56 rfl rfl ?_
      refine v_bipush (pc := 57) (v := (112 : Int32)) dX11_act_57 rfl ?_
      refine v_bipush (pc := 59) (v := (114 : Int32)) dX11_act_59 rfl ?_
      refine v_bipush (pc := 61) (v := (101 : Int32)) dX11_act_61 rfl ?_
      refine v_bipush (pc := 63) (v := (115 : Int32)) dX11_act_63 rfl ?_
      refine v_bipush (pc := 65) (v := (115 : Int32)) dX11_act_65 rfl ?_
      refine v_bipush (pc := 67) (v := (101 : Int32)) dX11_act_67 rfl ?_
      refine v_bipush (pc := 69) (v := (100 : Int32)) dX11_act_69 rfl ?_
      refine cp_S (pc := 71) gL (as := [si (112 : Int32), si (114 : Int32), si (101 : Int32), si (115 : Int32), si (115 : Int32), si (101 : Int32), si (100 : Int32)]) (st := [sr (some a0)]) (k := 0) (n := 0) dX11_act_71 lkX11_133 caX11_word csX11_word rfl (fun Q1 hq => tX11_word (112 : Int32) (114 : Int32) (101 : Int32) (115 : Int32) (115 : Int32) (101 : Int32) (100 : Int32) h32 Q1 hq) ⟨by decide, by decide⟩ (Nat.le_of_ble_eq_true rfl) rfl hF (fun x33 hF => ?_)
      show gV G mX11_act 4 Q 74 [some (sr (some a0)), some (si x3)] [sl x33, sr (some a0)] (0) (0) h32
      refine ch_V (pc := 74) gU (as := [sl x33]) (st := []) (ci := 10) (k := 0) (n := 0) dX11_act_74 lkX11_160 caX11_partWord cvX11_partWord rfl (by decide) rfl (fun b Q1 hq => tX11_partWord b x33 h32 Q1 hq) ⟨by decide, by decide⟩ (Nat.le_of_ble_eq_true rfl) rfl hF (fun x34 h35 hF => ?_)
      show gV G mX11_act 4 Q 77 [some (sr (some a0)), some (si x3)] [] (0) (0) h35
      refine v_goto (pc := 77) 160 dX11_act_77 rfl ?_
      exact v_lle [some (sr (some a0)), none] ⟨rfl, trivial⟩ (hj9 _ (okB_some hF))
    refine v_aload_n (pc := 160) (i := 0) dX11_act_160 rfl rfl ?_
    refine ch_V (pc := 161) gU (as := []) (st := []) (ci := 10) (k := 0) (n := 0) dX11_act_161 lkX11_203 caX11_comeAnswer cvX11_comeAnswer rfl (by decide) rfl (fun b Q1 hq => tX11_comeAnswer b q8 Q1 hq) ⟨by decide, by decide⟩ (Nat.le_of_ble_eq_true rfl) rfl hF (fun x36 h37 hF => ?_)
    show gV G mX11_act 4 Q 164 [some (sr (some a0)), none] [] (0) (0) h37
    exact v_ret (pc := 164) dX11_act_164 rfl (okr hF fun q => q)
  replace hF := (okB_if hF).1 hc
  refine v_aload_n (pc := 17) (i := 0) dX11_act_17 rfl rfl ?_
  refine cp_S (pc := 18) gL (as := []) (st := [sr (some a0)]) (k := 0) (n := 0) dX11_act_18 lkX11_340 caX11_none csX11_none rfl (fun Q1 hq => tX11_none h Q1 hq) ⟨by decide, by decide⟩ (Nat.le_of_ble_eq_true rfl) rfl hF (fun x38 hF => ?_)
  show gV G mX11_act 4 Q 21 [some (sr (some a0)), some (si x3)] [sl x38, sr (some a0)] (0) (0) h
  refine ch_V (pc := 21) gU (as := [sl x38]) (st := []) (ci := 10) (k := 0) (n := 0) dX11_act_21 lkX11_322 caX11_say cvX11_say rfl (by decide) rfl (fun b Q1 hq => tX11_say b x38 h Q1 hq) ⟨by decide, by decide⟩ (Nat.le_of_ble_eq_true rfl) rfl hF (fun x39 h40 hF => ?_)
  show gV G mX11_act 4 Q 24 [some (sr (some a0)), some (si x3)] [] (0) (0) h40
  exact v_ret (pc := 24) dX11_act_24 rfl (okr hF fun q => q)
/-! BrailleDeskModel.command -/
def fX11_command (a0 : Nat) (a1 : Int32) (h : hp) : Option (Unit × hp) :=
  oR (τ := (Unit × hp)) (σ := Unit)
  (if a1 = (1 : Int32) then
  (some (.inr ()))
  else
  if a1 = (8 : Int32) then
  (some (.inr ()))
  else
  if a1 = (4 : Int32) then
  ((oGR 10 3 (some a0) h).bind fun x36 =>
  (oGI 10 20 (some a0) h).bind fun x37 =>
  (oIL x36 x37 h).bind fun x38 =>
  (fX11_none).bind fun x39 =>
  (oOb 10 (some a0) h).bind fun b =>
  o2 (fX11_goOr b x38 x39 h) fun _ h41 =>
  some (.inl (((), h41))))
  else
  if a1 = (32 : Int32) then
  ((oOb 10 (some a0) h).bind fun b =>
  o2 (fX11_goIn b h) fun _ h35 =>
  some (.inl (((), h35))))
  else
  oR (τ := ((Unit × hp) ⊕ Unit)) (σ := Unit)
  (if a1 = (2 : Int32) then
  (some (.inr ()))
  else
  if a1 = (16 : Int32) then
  (some (.inr ()))
  else
  if a1 = (30 : Int32) then
  ((oOb 10 (some a0) h).bind fun b =>
  o2 (fX11_goTab b h) fun _ h29 =>
  some (.inl (.inl (((), h29)))))
  else
  if a1 = (128 : Int32) then
  ((oOb 10 (some a0) h).bind fun b =>
  o2 (fX11_act b h) fun _ h27 =>
  some (.inl (.inl (((), h27)))))
  else
  if a1 = (64 : Int32) then
  ((oOb 10 (some a0) h).bind fun b =>
  o2 (fX11_hush b h) fun _ h25 =>
  some (.inl (.inl (((), h25)))))
  else
  if a1 = (7 : Int32) then
  ((oGI 10 25 (some a0) h).bind fun x19 =>
  (oGI 10 25 (some a0) h).bind fun x20 =>
  Option.bind (α := Int32)
  (if x20 ≤ 0 then
  (some (0 : Int32))
  else
  some (10 : Int32))
  fun q21 =>
  (oPI 10 25 (some a0) (x19 - q21) h).bind fun h23 =>
  some (.inl (.inl (((), h23)))))
  else
  if a1 = (56 : Int32) then
  ((oOb 10 (some a0) h).bind fun b =>
  o2 (fX11_layLine b h) fun _ h12 =>
  (oGI 10 25 (some a0) h12).bind fun x13 =>
  (oGI 10 25 (some a0) h12).bind fun x14 =>
  (oGI 10 53 (some a0) h12).bind fun x15 =>
  Option.bind (α := Int32)
  (if x15 ≤ (x14 + (10 : Int32)) then
  (some (0 : Int32))
  else
  some (10 : Int32))
  fun q16 =>
  (oPI 10 25 (some a0) (x13 + q16) h12).bind fun h18 =>
  some (.inl (.inl (((), h18)))))
  else
  if a1 = (23 : Int32) then
  ((oPI 10 29 (some a0) (0 : Int32) h).bind fun h5 =>
  (oGI 10 20 (some a0) h5).bind fun x6 =>
  (oOb 10 (some a0) h5).bind fun b =>
  o2 (fX11_partWords b x6 h5) fun _ h8 =>
  (oOb 10 (some a0) h8).bind fun b =>
  o2 (fX11_comeAnswer b h8) fun _ h10 =>
  some (.inl (.inl (((), h10)))))
  else
  some (.inl (.inl (((), h)))))
  fun q3 =>
  Option.bind (α := Int32)
  (if a1 = (2 : Int32) then
  (some (-1 : Int32))
  else
  some (1 : Int32))
  fun q30 =>
  (oOb 10 (some a0) h).bind fun b =>
  o2 (fX11_goRows b q30 h) fun _ h33 =>
  some (.inl (((), h33))))
  fun q1 =>
  Option.bind (α := Int32)
  (if a1 = (1 : Int32) then
  (some (-1 : Int32))
  else
  some (1 : Int32))
  fun q42 =>
  (oOb 10 (some a0) h).bind fun b =>
  o2 (fX11_step b q42 h) fun _ h45 =>
  some (((), h45))
theorem tX11_command {G : gG} (a0 : Nat) (a1 : Int32) (h : hp) (Q : hQ) (hF : okB (fX11_command a0 a1 h) (pH gU Q)) : gS G mX11_command 8 0 0 [sr (some a0), si a1] h Q := by
  delta fX11_command at hF
  refine gS_at [some (sr (some a0)), some (si a1)] pl_X11 rfl (Nat.le_of_ble_eq_true rfl) rfl ?_
  refine v_iload_n (pc := 0) (i := 1) dX11_command_0 rfl rfl ?_
  refine v_iconst (pc := 1) (v := (1 : Int32)) dX11_command_1 rfl ?_
  refine mgR (X := fun q1 => gV G mX11_command 8 Q 11 [some (sr (some a0)), some (si a1)] [] (0) (0) h) hF (fun _ hj2 hr2 hF => ?_) (fun q1 hF => ?_)
  · refine v_icmp_eq (pc := 2) 11 dX11_command_2 rfl (fun hc => ?_) (fun hc => ?_)
    · replace hF := (okB_if hF).1 hc
      exact v_lle [some (sr (some a0)), some (si a1)] ⟨rfl, rfl, trivial⟩ (hj2 _ (okB_some hF))
    replace hF := (okB_if hF).2 hc
    refine v_iload_n (pc := 5) (i := 1) dX11_command_5 rfl rfl ?_
    refine v_bipush (pc := 6) (v := (8 : Int32)) dX11_command_6 rfl ?_
    refine v_icmp_ne (pc := 8) 28 dX11_command_8 rfl (fun hc => ?_) (fun hc => ?_)
    · replace hF := (okB_if hF).2 hc
      refine v_iload_n (pc := 28) (i := 1) dX11_command_28 rfl rfl ?_
      refine v_iconst (pc := 29) (v := (4 : Int32)) dX11_command_29 rfl ?_
      refine v_icmp_ne (pc := 30) 52 dX11_command_30 rfl (fun hc => ?_) (fun hc => ?_)
      · replace hF := (okB_if hF).2 hc
        refine v_iload_n (pc := 52) (i := 1) dX11_command_52 rfl rfl ?_
        refine v_bipush (pc := 53) (v := (32 : Int32)) dX11_command_53 rfl ?_
        refine v_icmp_ne (pc := 55) 65 dX11_command_55 rfl (fun hc => ?_) (fun hc => ?_)
        · replace hF := (okB_if hF).2 hc
          refine v_iload_n (pc := 65) (i := 1) dX11_command_65 rfl rfl ?_
          refine v_iconst (pc := 66) (v := (2 : Int32)) dX11_command_66 rfl ?_
          refine mgR (X := fun q3 => gV G mX11_command 8 Q 76 [some (sr (some a0)), some (si a1)] [] (0) (0) h) hF (fun _ hj4 hr4 hF => ?_) (fun q3 hF => ?_)
          · refine v_icmp_eq (pc := 67) 76 dX11_command_67 rfl (fun hc => ?_) (fun hc => ?_)
            · replace hF := (okB_if hF).1 hc
              exact v_lle [some (sr (some a0)), some (si a1)] ⟨rfl, rfl, trivial⟩ (hj4 _ (okB_some hF))
            replace hF := (okB_if hF).2 hc
            refine v_iload_n (pc := 70) (i := 1) dX11_command_70 rfl rfl ?_
            refine v_bipush (pc := 71) (v := (16 : Int32)) dX11_command_71 rfl ?_
            refine v_icmp_ne (pc := 73) 93 dX11_command_73 rfl (fun hc => ?_) (fun hc => ?_)
            · replace hF := (okB_if hF).2 hc
              refine v_iload_n (pc := 93) (i := 1) dX11_command_93 rfl rfl ?_
              refine v_bipush (pc := 94) (v := (30 : Int32)) dX11_command_94 rfl ?_
              refine v_icmp_ne (pc := 96) 106 dX11_command_96 rfl (fun hc => ?_) (fun hc => ?_)
              · replace hF := (okB_if hF).2 hc
                refine v_iload_n (pc := 106) (i := 1) dX11_command_106 rfl rfl ?_
                refine v_sipush (pc := 107) (v := (128 : Int32)) dX11_command_107 rfl ?_
                refine v_icmp_ne (pc := 110) 120 dX11_command_110 rfl (fun hc => ?_) (fun hc => ?_)
                · replace hF := (okB_if hF).2 hc
                  refine v_iload_n (pc := 120) (i := 1) dX11_command_120 rfl rfl ?_
                  refine v_bipush (pc := 121) (v := (64 : Int32)) dX11_command_121 rfl ?_
                  refine v_icmp_ne (pc := 123) 133 dX11_command_123 rfl (fun hc => ?_) (fun hc => ?_)
                  · replace hF := (okB_if hF).2 hc
                    refine v_iload_n (pc := 133) (i := 1) dX11_command_133 rfl rfl ?_
                    refine v_bipush (pc := 134) (v := (7 : Int32)) dX11_command_134 rfl ?_
                    refine v_icmp_ne (pc := 136) 164 dX11_command_136 rfl (fun hc => ?_) (fun hc => ?_)
                    · replace hF := (okB_if hF).2 hc
                      refine v_iload_n (pc := 164) (i := 1) dX11_command_164 rfl rfl ?_
                      refine v_bipush (pc := 165) (v := (56 : Int32)) dX11_command_165 rfl ?_
                      refine v_icmp_ne (pc := 167) 206 dX11_command_167 rfl (fun hc => ?_) (fun hc => ?_)
                      · replace hF := (okB_if hF).2 hc
                        refine v_iload_n (pc := 206) (i := 1) dX11_command_206 rfl rfl ?_
                        refine v_bipush (pc := 207) (v := (23 : Int32)) dX11_command_207 rfl ?_
                        refine v_icmp_ne (pc := 209) 229 dX11_command_209 rfl (fun hc => ?_) (fun hc => ?_)
                        · replace hF := (okB_if hF).2 hc
                          exact v_ret (pc := 229) dX11_command_229 rfl (hr2 _ (hr4 _ (okB_some hF)))
                        replace hF := (okB_if hF).1 hc
                        refine v_aload_n (pc := 212) (i := 0) dX11_command_212 rfl rfl ?_
                        refine v_iconst (pc := 213) (v := (0 : Int32)) dX11_command_213 rfl ?_
                        refine s_putI (pc := 214) dX11_command_214 flX11_143 (Or.inl rfl) rfl hF (fun h5 hF => ?_)
                        refine v_aload_n (pc := 217) (i := 0) dX11_command_217 rfl rfl ?_
                        refine v_aload_n (pc := 218) (i := 0) dX11_command_218 rfl rfl ?_
                        refine s_getI (pc := 219) dX11_command_219 flX11_128 rfl hF (fun x6 hF => ?_)
                        refine ch_V (pc := 222) gU (as := [si x6]) (st := []) (ci := 10) (k := 0) (n := 0) dX11_command_222 lkX11_227 caX11_partWords cvX11_partWords rfl (by decide) rfl (fun b Q1 hq => tX11_partWords b x6 h5 Q1 hq) ⟨by decide, by decide⟩ (Nat.le_of_ble_eq_true rfl) rfl hF (fun x7 h8 hF => ?_)
                        show gV G mX11_command 8 Q 225 [some (sr (some a0)), some (si a1)] [] (0) (0) h8
                        refine v_aload_n (pc := 225) (i := 0) dX11_command_225 rfl rfl ?_
                        refine ch_V (pc := 226) gU (as := []) (st := []) (ci := 10) (k := 0) (n := 0) dX11_command_226 lkX11_203 caX11_comeAnswer cvX11_comeAnswer rfl (by decide) rfl (fun b Q1 hq => tX11_comeAnswer b h8 Q1 hq) ⟨by decide, by decide⟩ (Nat.le_of_ble_eq_true rfl) rfl hF (fun x9 h10 hF => ?_)
                        show gV G mX11_command 8 Q 229 [some (sr (some a0)), some (si a1)] [] (0) (0) h10
                        exact v_ret (pc := 229) dX11_command_229 rfl (hr2 _ (hr4 _ (okB_some hF)))
                      replace hF := (okB_if hF).1 hc
                      refine v_aload_n (pc := 170) (i := 0) dX11_command_170 rfl rfl ?_
                      refine ch_V (pc := 171) gU (as := []) (st := []) (ci := 10) (k := 0) (n := 0) dX11_command_171 lkX11_271 caX11_layLine cvX11_layLine rfl (by decide) rfl (fun b Q1 hq => tX11_layLine b h Q1 hq) ⟨by decide, by decide⟩ (Nat.le_of_ble_eq_true rfl) rfl hF (fun x11 h12 hF => ?_)
                      show gV G mX11_command 8 Q 174 [some (sr (some a0)), some (si a1)] [] (0) (0) h12
                      refine v_aload_n (pc := 174) (i := 0) dX11_command_174 rfl rfl ?_
                      refine v_dup (pc := 175) dX11_command_175 rfl ?_
                      refine s_getI (pc := 176) dX11_command_176 flX11_274 rfl hF (fun x13 hF => ?_)
                      refine v_aload_n (pc := 179) (i := 0) dX11_command_179 rfl rfl ?_
                      refine s_getI (pc := 180) dX11_command_180 flX11_274 rfl hF (fun x14 hF => ?_)
                      refine v_bipush (pc := 183) (v := (10 : Int32)) dX11_command_183 rfl ?_
                      refine v_iadd (pc := 185) dX11_command_185 ?_
                      refine v_aload_n (pc := 186) (i := 0) dX11_command_186 rfl rfl ?_
                      refine s_getI (pc := 187) dX11_command_187 flX11_236 rfl hF (fun x15 hF => ?_)
                      refine mg (X := fun q16 => gV G mX11_command 8 Q 199 [none, none] [si q16, si x13, sr (some a0)] (0) (0) h12) hF (fun _ hj17 hF => ?_) (fun q16 hF => ?_)
                      · refine v_icmp_ge (pc := 190) 198 dX11_command_190 rfl (fun hc => ?_) (fun hc => ?_)
                        · replace hF := (okB_if hF).1 hc
                          refine v_iconst (pc := 198) (v := (0 : Int32)) dX11_command_198 rfl ?_
                          exact v_lle [none, none] trivial (hj17 _ (okB_some hF))
                        replace hF := (okB_if hF).2 hc
                        refine v_bipush (pc := 193) (v := (10 : Int32)) dX11_command_193 rfl ?_
                        refine v_goto (pc := 195) 199 dX11_command_195 rfl ?_
                        exact v_lle [none, none] trivial (hj17 _ (okB_some hF))
                      refine v_iadd (pc := 199) dX11_command_199 ?_
                      refine s_putI (pc := 200) dX11_command_200 flX11_274 (Or.inl rfl) rfl hF (fun h18 hF => ?_)
                      refine v_goto (pc := 203) 229 dX11_command_203 rfl ?_
                      exact v_ret (pc := 229) dX11_command_229 rfl (hr2 _ (hr4 _ (okB_some hF)))
                    replace hF := (okB_if hF).1 hc
                    refine v_aload_n (pc := 139) (i := 0) dX11_command_139 rfl rfl ?_
                    refine v_dup (pc := 140) dX11_command_140 rfl ?_
                    refine s_getI (pc := 141) dX11_command_141 flX11_274 rfl hF (fun x19 hF => ?_)
                    refine v_aload_n (pc := 144) (i := 0) dX11_command_144 rfl rfl ?_
                    refine s_getI (pc := 145) dX11_command_145 flX11_274 rfl hF (fun x20 hF => ?_)
                    refine mg (X := fun q21 => gV G mX11_command 8 Q 157 [none, none] [si q21, si x19, sr (some a0)] (0) (0) h) hF (fun _ hj22 hF => ?_) (fun q21 hF => ?_)
                    · refine v_if_le (pc := 148) 156 dX11_command_148 rfl (fun hc => ?_) (fun hc => ?_)
                      · replace hF := (okB_if hF).1 hc
                        refine v_iconst (pc := 156) (v := (0 : Int32)) dX11_command_156 rfl ?_
                        exact v_lle [none, none] trivial (hj22 _ (okB_some hF))
                      replace hF := (okB_if hF).2 hc
                      refine v_bipush (pc := 151) (v := (10 : Int32)) dX11_command_151 rfl ?_
                      refine v_goto (pc := 153) 157 dX11_command_153 rfl ?_
                      exact v_lle [none, none] trivial (hj22 _ (okB_some hF))
                    refine v_isub (pc := 157) dX11_command_157 ?_
                    refine s_putI (pc := 158) dX11_command_158 flX11_274 (Or.inl rfl) rfl hF (fun h23 hF => ?_)
                    refine v_goto (pc := 161) 229 dX11_command_161 rfl ?_
                    exact v_ret (pc := 229) dX11_command_229 rfl (hr2 _ (hr4 _ (okB_some hF)))
                  replace hF := (okB_if hF).1 hc
                  refine v_aload_n (pc := 126) (i := 0) dX11_command_126 rfl rfl ?_
                  refine ch_V (pc := 127) gU (as := []) (st := []) (ci := 10) (k := 0) (n := 0) dX11_command_127 lkX11_367 caX11_hush cvX11_hush rfl (by decide) rfl (fun b Q1 hq => tX11_hush b h Q1 hq) ⟨by decide, by decide⟩ (Nat.le_of_ble_eq_true rfl) rfl hF (fun x24 h25 hF => ?_)
                  show gV G mX11_command 8 Q 130 [some (sr (some a0)), some (si a1)] [] (0) (0) h25
                  refine v_goto (pc := 130) 229 dX11_command_130 rfl ?_
                  exact v_ret (pc := 229) dX11_command_229 rfl (hr2 _ (hr4 _ (okB_some hF)))
                replace hF := (okB_if hF).1 hc
                refine v_aload_n (pc := 113) (i := 0) dX11_command_113 rfl rfl ?_
                refine ch_V (pc := 114) gU (as := []) (st := []) (ci := 10) (k := 0) (n := 0) dX11_command_114 lkX11_364 caX11_act cvX11_act rfl (by decide) rfl (fun b Q1 hq => tX11_act b h Q1 hq) ⟨by decide, by decide⟩ (Nat.le_of_ble_eq_true rfl) rfl hF (fun x26 h27 hF => ?_)
                show gV G mX11_command 8 Q 117 [some (sr (some a0)), some (si a1)] [] (0) (0) h27
                refine v_goto (pc := 117) 229 dX11_command_117 rfl ?_
                exact v_ret (pc := 229) dX11_command_229 rfl (hr2 _ (hr4 _ (okB_some hF)))
              replace hF := (okB_if hF).1 hc
              refine v_aload_n (pc := 99) (i := 0) dX11_command_99 rfl rfl ?_
              refine ch_V (pc := 100) gU (as := []) (st := []) (ci := 10) (k := 0) (n := 0) dX11_command_100 lkX11_361 caX11_goTab cvX11_goTab rfl (by decide) rfl (fun b Q1 hq => tX11_goTab b h Q1 hq) ⟨by decide, by decide⟩ (Nat.le_of_ble_eq_true rfl) rfl hF (fun x28 h29 hF => ?_)
              show gV G mX11_command 8 Q 103 [some (sr (some a0)), some (si a1)] [] (0) (0) h29
              refine v_goto (pc := 103) 229 dX11_command_103 rfl ?_
              exact v_ret (pc := 229) dX11_command_229 rfl (hr2 _ (hr4 _ (okB_some hF)))
            replace hF := (okB_if hF).1 hc
            exact v_lle [some (sr (some a0)), some (si a1)] ⟨rfl, rfl, trivial⟩ (hj4 _ (okB_some hF))
          refine v_aload_n (pc := 76) (i := 0) dX11_command_76 rfl rfl ?_
          refine v_iload_n (pc := 77) (i := 1) dX11_command_77 rfl rfl ?_
          refine v_iconst (pc := 78) (v := (2 : Int32)) dX11_command_78 rfl ?_
          refine mg (X := fun q30 => gV G mX11_command 8 Q 87 [none, none] [si q30, sr (some a0)] (0) (0) h) hF (fun _ hj31 hF => ?_) (fun q30 hF => ?_)
          · refine v_icmp_ne (pc := 79) 86 dX11_command_79 rfl (fun hc => ?_) (fun hc => ?_)
            · replace hF := (okB_if hF).2 hc
              refine v_iconst (pc := 86) (v := (1 : Int32)) dX11_command_86 rfl ?_
              exact v_lle [none, none] trivial (hj31 _ (okB_some hF))
            replace hF := (okB_if hF).1 hc
            refine v_iconst (pc := 82) (v := (-1 : Int32)) dX11_command_82 rfl ?_
            refine v_goto (pc := 83) 87 dX11_command_83 rfl ?_
            exact v_lle [none, none] trivial (hj31 _ (okB_some hF))
          refine ch_V (pc := 87) gU (as := [si q30]) (st := []) (ci := 10) (k := 0) (n := 0) dX11_command_87 lkX11_358 caX11_goRows cvX11_goRows rfl (by decide) rfl (fun b Q1 hq => tX11_goRows b q30 h Q1 hq) ⟨by decide, by decide⟩ (Nat.le_of_ble_eq_true rfl) rfl hF (fun x32 h33 hF => ?_)
          show gV G mX11_command 8 Q 90 [none, none] [] (0) (0) h33
          refine v_goto (pc := 90) 229 dX11_command_90 rfl ?_
          exact v_ret (pc := 229) dX11_command_229 rfl (hr2 _ (okB_some hF))
        replace hF := (okB_if hF).1 hc
        refine v_aload_n (pc := 58) (i := 0) dX11_command_58 rfl rfl ?_
        refine ch_V (pc := 59) gU (as := []) (st := []) (ci := 10) (k := 0) (n := 0) dX11_command_59 lkX11_355 caX11_goIn cvX11_goIn rfl (by decide) rfl (fun b Q1 hq => tX11_goIn b h Q1 hq) ⟨by decide, by decide⟩ (Nat.le_of_ble_eq_true rfl) rfl hF (fun x34 h35 hF => ?_)
        show gV G mX11_command 8 Q 62 [some (sr (some a0)), some (si a1)] [] (0) (0) h35
        refine v_goto (pc := 62) 229 dX11_command_62 rfl ?_
        exact v_ret (pc := 229) dX11_command_229 rfl (hr2 _ (okB_some hF))
      replace hF := (okB_if hF).1 hc
      refine v_aload_n (pc := 33) (i := 0) dX11_command_33 rfl rfl ?_
      refine v_aload_n (pc := 34) (i := 0) dX11_command_34 rfl rfl ?_
      refine s_getR (pc := 35) dX11_command_35 flX11_17 rfl hF (fun x36 hF => ?_)
      refine v_aload_n (pc := 38) (i := 0) dX11_command_38 rfl rfl ?_
      refine s_getI (pc := 39) dX11_command_39 flX11_128 rfl hF (fun x37 hF => ?_)
      refine s_iald (pc := 42) dX11_command_42 hF (fun x38 hF => ?_)
      refine cp_S (pc := 43) gL (as := []) (st := [si x38, sr (some a0)]) (k := 0) (n := 0) dX11_command_43 lkX11_340 caX11_none csX11_none rfl (fun Q1 hq => tX11_none h Q1 hq) ⟨by decide, by decide⟩ (Nat.le_of_ble_eq_true rfl) rfl hF (fun x39 hF => ?_)
      show gV G mX11_command 8 Q 46 [some (sr (some a0)), some (si a1)] [sl x39, si x38, sr (some a0)] (0) (0) h
      refine ch_V (pc := 46) gU (as := [si x38, sl x39]) (st := []) (ci := 10) (k := 0) (n := 0) dX11_command_46 lkX11_336 caX11_goOr cvX11_goOr rfl (by decide) rfl (fun b Q1 hq => tX11_goOr b x38 x39 h Q1 hq) ⟨by decide, by decide⟩ (Nat.le_of_ble_eq_true rfl) rfl hF (fun x40 h41 hF => ?_)
      show gV G mX11_command 8 Q 49 [some (sr (some a0)), some (si a1)] [] (0) (0) h41
      refine v_goto (pc := 49) 229 dX11_command_49 rfl ?_
      exact v_ret (pc := 229) dX11_command_229 rfl (hr2 _ (okB_some hF))
    replace hF := (okB_if hF).1 hc
    exact v_lle [some (sr (some a0)), some (si a1)] ⟨rfl, rfl, trivial⟩ (hj2 _ (okB_some hF))
  refine v_aload_n (pc := 11) (i := 0) dX11_command_11 rfl rfl ?_
  refine v_iload_n (pc := 12) (i := 1) dX11_command_12 rfl rfl ?_
  refine v_iconst (pc := 13) (v := (1 : Int32)) dX11_command_13 rfl ?_
  refine mg (X := fun q42 => gV G mX11_command 8 Q 22 [none, none] [si q42, sr (some a0)] (0) (0) h) hF (fun _ hj43 hF => ?_) (fun q42 hF => ?_)
  · refine v_icmp_ne (pc := 14) 21 dX11_command_14 rfl (fun hc => ?_) (fun hc => ?_)
    · replace hF := (okB_if hF).2 hc
      refine v_iconst (pc := 21) (v := (1 : Int32)) dX11_command_21 rfl ?_
      exact v_lle [none, none] trivial (hj43 _ (okB_some hF))
    replace hF := (okB_if hF).1 hc
    refine v_iconst (pc := 17) (v := (-1 : Int32)) dX11_command_17 rfl ?_
    refine v_goto (pc := 18) 22 dX11_command_18 rfl ?_
    exact v_lle [none, none] trivial (hj43 _ (okB_some hF))
  refine ch_V (pc := 22) gU (as := [si q42]) (st := []) (ci := 10) (k := 0) (n := 0) dX11_command_22 lkX11_352 caX11_step cvX11_step rfl (by decide) rfl (fun b Q1 hq => tX11_step b q42 h Q1 hq) ⟨by decide, by decide⟩ (Nat.le_of_ble_eq_true rfl) rfl hF (fun x44 h45 hF => ?_)
  show gV G mX11_command 8 Q 25 [none, none] [] (0) (0) h45
  refine v_goto (pc := 25) 229 dX11_command_25 rfl ?_
  exact v_ret (pc := 229) dX11_command_229 rfl (okr hF fun q => q)
