/-! ===== methods: their functions and rows ===== -/
theorem dX11_canHave_0 : decode cX11_canHave 0 = .ok (.iload_n 0, 1) := by decide +kernel
theorem dX11_canHave_1 : decode cX11_canHave 1 = .ok (.ifCond .eq 9, 3) := by decide +kernel
theorem dX11_canHave_4 : decode cX11_canHave 4 = .ok (.iload_n 0, 1) := by decide +kernel
theorem dX11_canHave_5 : decode cX11_canHave 5 = .ok (.bipush 7, 2) := by decide +kernel
theorem dX11_canHave_7 : decode cX11_canHave 7 = .ok (.if_icmp .ne 15, 3) := by decide +kernel
theorem dX11_canHave_10 : decode cX11_canHave 10 = .ok (.iload_n 1, 1) := by decide +kernel
theorem dX11_canHave_11 : decode cX11_canHave 11 = .ok (.bipush 6, 2) := by decide +kernel
theorem dX11_canHave_13 : decode cX11_canHave 13 = .ok (.if_icmp .eq 7, 3) := by decide +kernel
theorem dX11_canHave_16 : decode cX11_canHave 16 = .ok (.iconst 1, 1) := by decide +kernel
theorem dX11_canHave_17 : decode cX11_canHave 17 = .ok (.goto 4, 3) := by decide +kernel
theorem dX11_canHave_20 : decode cX11_canHave 20 = .ok (.iconst 0, 1) := by decide +kernel
theorem dX11_canHave_21 : decode cX11_canHave 21 = .ok (.ireturn, 1) := by decide +kernel
theorem dX11_canHave_22 : decode cX11_canHave 22 = .ok (.iload_n 0, 1) := by decide +kernel
theorem dX11_canHave_23 : decode cX11_canHave 23 = .ok (.iconst 5, 1) := by decide +kernel
theorem dX11_canHave_24 : decode cX11_canHave 24 = .ok (.if_icmp .ne 17, 3) := by decide +kernel
theorem dX11_canHave_27 : decode cX11_canHave 27 = .ok (.iload_n 1, 1) := by decide +kernel
theorem dX11_canHave_28 : decode cX11_canHave 28 = .ok (.bipush 6, 2) := by decide +kernel
theorem dX11_canHave_30 : decode cX11_canHave 30 = .ok (.if_icmp .ne 7, 3) := by decide +kernel
theorem dX11_canHave_33 : decode cX11_canHave 33 = .ok (.iconst 1, 1) := by decide +kernel
theorem dX11_canHave_34 : decode cX11_canHave 34 = .ok (.goto 27, 3) := by decide +kernel
theorem dX11_canHave_37 : decode cX11_canHave 37 = .ok (.iconst 0, 1) := by decide +kernel
theorem dX11_canHave_38 : decode cX11_canHave 38 = .ok (.goto 23, 3) := by decide +kernel
theorem dX11_canHave_41 : decode cX11_canHave 41 = .ok (.iload_n 0, 1) := by decide +kernel
theorem dX11_canHave_42 : decode cX11_canHave 42 = .ok (.bipush 6, 2) := by decide +kernel
theorem dX11_canHave_44 : decode cX11_canHave 44 = .ok (.if_icmp .ne 16, 3) := by decide +kernel
theorem dX11_canHave_47 : decode cX11_canHave 47 = .ok (.iload_n 1, 1) := by decide +kernel
theorem dX11_canHave_48 : decode cX11_canHave 48 = .ok (.iconst 1, 1) := by decide +kernel
theorem dX11_canHave_49 : decode cX11_canHave 49 = .ok (.iconst 4, 1) := by decide +kernel
theorem dX11_canHave_50 : decode cX11_canHave 50 = .ok (.invokestatic 114, 3) := by decide +kernel
theorem dX11_canHave_53 : decode cX11_canHave 53 = .ok (.ifCond .eq 7, 3) := by decide +kernel
theorem dX11_canHave_56 : decode cX11_canHave 56 = .ok (.iconst 1, 1) := by decide +kernel
theorem dX11_canHave_57 : decode cX11_canHave 57 = .ok (.goto 4, 3) := by decide +kernel
theorem dX11_canHave_60 : decode cX11_canHave 60 = .ok (.iconst 0, 1) := by decide +kernel
theorem dX11_canHave_61 : decode cX11_canHave 61 = .ok (.ireturn, 1) := by decide +kernel
theorem dX11_takeDraft_0 : decode cX11_takeDraft 0 = .ok (.aload_n 0, 1) := by decide +kernel
theorem dX11_takeDraft_1 : decode cX11_takeDraft 1 = .ok (.getfield 62, 3) := by decide +kernel
theorem dX11_takeDraft_4 : decode cX11_takeDraft 4 = .ok (.iconst 0, 1) := by decide +kernel
theorem dX11_takeDraft_5 : decode cX11_takeDraft 5 = .ok (.aload_n 0, 1) := by decide +kernel
theorem dX11_takeDraft_6 : decode cX11_takeDraft 6 = .ok (.getfield 26, 3) := by decide +kernel
theorem dX11_takeDraft_9 : decode cX11_takeDraft 9 = .ok (.bipush 12, 2) := by decide +kernel
theorem dX11_takeDraft_11 : decode cX11_takeDraft 11 = .ok (.iload_n 1, 1) := by decide +kernel
theorem dX11_takeDraft_12 : decode cX11_takeDraft 12 = .ok (.imul, 1) := by decide +kernel
theorem dX11_takeDraft_13 : decode cX11_takeDraft 13 = .ok (.aload_n 0, 1) := by decide +kernel
theorem dX11_takeDraft_14 : decode cX11_takeDraft 14 = .ok (.getfield 282, 3) := by decide +kernel
theorem dX11_takeDraft_17 : decode cX11_takeDraft 17 = .ok (.invokestatic 181, 3) := by decide +kernel
theorem dX11_takeDraft_20 : decode cX11_takeDraft 20 = .ok (.aload_n 0, 1) := by decide +kernel
theorem dX11_takeDraft_21 : decode cX11_takeDraft 21 = .ok (.getfield 29, 3) := by decide +kernel
theorem dX11_takeDraft_24 : decode cX11_takeDraft 24 = .ok (.iload_n 1, 1) := by decide +kernel
theorem dX11_takeDraft_25 : decode cX11_takeDraft 25 = .ok (.aload_n 0, 1) := by decide +kernel
theorem dX11_takeDraft_26 : decode cX11_takeDraft 26 = .ok (.getfield 282, 3) := by decide +kernel
theorem dX11_takeDraft_29 : decode cX11_takeDraft 29 = .ok (.iastore, 1) := by decide +kernel
theorem dX11_takeDraft_30 : decode cX11_takeDraft 30 = .ok (.aload_n 0, 1) := by decide +kernel
theorem dX11_takeDraft_31 : decode cX11_takeDraft 31 = .ok (.iconst 0, 1) := by decide +kernel
theorem dX11_takeDraft_32 : decode cX11_takeDraft 32 = .ok (.putfield 282, 3) := by decide +kernel
theorem dX11_takeDraft_35 : decode cX11_takeDraft 35 = .ok (.return_, 1) := by decide +kernel
theorem dX11_add_0 : decode cX11_add 0 = .ok (.aload_n 0, 1) := by decide +kernel
theorem dX11_add_1 : decode cX11_add 1 = .ok (.aload_n 0, 1) := by decide +kernel
theorem dX11_add_2 : decode cX11_add 2 = .ok (.iload_n 1, 1) := by decide +kernel
theorem dX11_add_3 : decode cX11_add 3 = .ok (.invokevirtual 118, 3) := by decide +kernel
theorem dX11_add_6 : decode cX11_add 6 = .ok (.ifCond .ne 7, 3) := by decide +kernel
theorem dX11_add_9 : decode cX11_add 9 = .ok (.iconst 1, 1) := by decide +kernel
theorem dX11_add_10 : decode cX11_add 10 = .ok (.goto 32, 3) := by decide +kernel
theorem dX11_add_13 : decode cX11_add 13 = .ok (.iload_n 2, 1) := by decide +kernel
theorem dX11_add_14 : decode cX11_add 14 = .ok (.iconst 0, 1) := by decide +kernel
theorem dX11_add_15 : decode cX11_add 15 = .ok (.aload_n 0, 1) := by decide +kernel
theorem dX11_add_16 : decode cX11_add 16 = .ok (.getfield 23, 3) := by decide +kernel
theorem dX11_add_19 : decode cX11_add 19 = .ok (.iload_n 1, 1) := by decide +kernel
theorem dX11_add_20 : decode cX11_add 20 = .ok (.iaload, 1) := by decide +kernel
theorem dX11_add_21 : decode cX11_add 21 = .ok (.invokestatic 114, 3) := by decide +kernel
theorem dX11_add_24 : decode cX11_add 24 = .ok (.ifCond .eq 13, 3) := by decide +kernel
theorem dX11_add_27 : decode cX11_add 27 = .ok (.iload_n 3, 1) := by decide +kernel
theorem dX11_add_28 : decode cX11_add 28 = .ok (.iconst 0, 1) := by decide +kernel
theorem dX11_add_29 : decode cX11_add 29 = .ok (.bipush 7, 2) := by decide +kernel
theorem dX11_add_31 : decode cX11_add 31 = .ok (.invokestatic 114, 3) := by decide +kernel
theorem dX11_add_34 : decode cX11_add 34 = .ok (.ifCond .ne 7, 3) := by decide +kernel
theorem dX11_add_37 : decode cX11_add 37 = .ok (.iconst 2, 1) := by decide +kernel
theorem dX11_add_38 : decode cX11_add 38 = .ok (.goto 4, 3) := by decide +kernel
theorem dX11_add_41 : decode cX11_add 41 = .ok (.iconst 0, 1) := by decide +kernel
theorem dX11_add_42 : decode cX11_add 42 = .ok (.putfield 111, 3) := by decide +kernel
theorem dX11_add_45 : decode cX11_add 45 = .ok (.aload_n 0, 1) := by decide +kernel
theorem dX11_add_46 : decode cX11_add 46 = .ok (.getfield 111, 3) := by decide +kernel
theorem dX11_add_49 : decode cX11_add 49 = .ok (.ifCond .ne 54, 3) := by decide +kernel
theorem dX11_add_52 : decode cX11_add 52 = .ok (.aload_n 0, 1) := by decide +kernel
theorem dX11_add_53 : decode cX11_add 53 = .ok (.aload_n 0, 1) := by decide +kernel
theorem dX11_add_54 : decode cX11_add 54 = .ok (.getfield 101, 3) := by decide +kernel
theorem dX11_add_57 : decode cX11_add 57 = .ok (.bipush 40, 2) := by decide +kernel
theorem dX11_add_59 : decode cX11_add 59 = .ok (.if_icmp .eq 36, 3) := by decide +kernel
theorem dX11_add_62 : decode cX11_add 62 = .ok (.aload_n 0, 1) := by decide +kernel
theorem dX11_add_63 : decode cX11_add 63 = .ok (.getfield 23, 3) := by decide +kernel
theorem dX11_add_66 : decode cX11_add 66 = .ok (.iload_n 1, 1) := by decide +kernel
theorem dX11_add_67 : decode cX11_add 67 = .ok (.iaload, 1) := by decide +kernel
theorem dX11_add_68 : decode cX11_add 68 = .ok (.bipush 10, 2) := by decide +kernel
theorem dX11_add_70 : decode cX11_add 70 = .ok (.if_icmp .eq 25, 3) := by decide +kernel
theorem dX11_add_73 : decode cX11_add 73 = .ok (.aload_n 0, 1) := by decide +kernel
theorem dX11_add_74 : decode cX11_add 74 = .ok (.getfield 13, 3) := by decide +kernel
theorem dX11_add_77 : decode cX11_add 77 = .ok (.iload_n 1, 1) := by decide +kernel
theorem dX11_add_78 : decode cX11_add 78 = .ok (.iaload, 1) := by decide +kernel
theorem dX11_add_79 : decode cX11_add 79 = .ok (.iload_n 3, 1) := by decide +kernel
theorem dX11_add_80 : decode cX11_add 80 = .ok (.invokestatic 285, 3) := by decide +kernel
theorem dX11_add_83 : decode cX11_add 83 = .ok (.ifCond .eq 12, 3) := by decide +kernel
theorem dX11_add_86 : decode cX11_add 86 = .ok (.aload_n 0, 1) := by decide +kernel
theorem dX11_add_87 : decode cX11_add 87 = .ok (.getfield 191, 3) := by decide +kernel
theorem dX11_add_90 : decode cX11_add 90 = .ok (.bipush 20, 2) := by decide +kernel
theorem dX11_add_92 : decode cX11_add 92 = .ok (.if_icmp .lt 7, 3) := by decide +kernel
theorem dX11_add_95 : decode cX11_add 95 = .ok (.iconst 3, 1) := by decide +kernel
theorem dX11_add_96 : decode cX11_add 96 = .ok (.goto 4, 3) := by decide +kernel
theorem dX11_add_99 : decode cX11_add 99 = .ok (.iconst 0, 1) := by decide +kernel
theorem dX11_add_100 : decode cX11_add 100 = .ok (.putfield 111, 3) := by decide +kernel
theorem dX11_add_103 : decode cX11_add 103 = .ok (.aload_n 0, 1) := by decide +kernel
theorem dX11_add_104 : decode cX11_add 104 = .ok (.getfield 111, 3) := by decide +kernel
theorem dX11_add_107 : decode cX11_add 107 = .ok (.ifCond .le 5, 3) := by decide +kernel
theorem dX11_add_110 : decode cX11_add 110 = .ok (.iconst 0, 1) := by decide +kernel
theorem dX11_add_111 : decode cX11_add 111 = .ok (.ireturn, 1) := by decide +kernel
theorem dX11_add_112 : decode cX11_add 112 = .ok (.aload_n 0, 1) := by decide +kernel
theorem dX11_add_113 : decode cX11_add 113 = .ok (.getfield 101, 3) := by decide +kernel
theorem dX11_add_116 : decode cX11_add 116 = .ok (.istore 4, 2) := by decide +kernel
theorem dX11_add_118 : decode cX11_add 118 = .ok (.aload_n 0, 1) := by decide +kernel
theorem dX11_add_119 : decode cX11_add 119 = .ok (.dup, 1) := by decide +kernel
theorem dX11_add_120 : decode cX11_add 120 = .ok (.getfield 101, 3) := by decide +kernel
theorem dX11_add_123 : decode cX11_add 123 = .ok (.iconst 1, 1) := by decide +kernel
theorem dX11_add_124 : decode cX11_add 124 = .ok (.iadd, 1) := by decide +kernel
theorem dX11_add_125 : decode cX11_add 125 = .ok (.putfield 101, 3) := by decide +kernel
theorem dX11_add_128 : decode cX11_add 128 = .ok (.aload_n 0, 1) := by decide +kernel
theorem dX11_add_129 : decode cX11_add 129 = .ok (.getfield 7, 3) := by decide +kernel
theorem dX11_add_132 : decode cX11_add 132 = .ok (.iload 4, 2) := by decide +kernel
theorem dX11_add_134 : decode cX11_add 134 = .ok (.iconst 1, 1) := by decide +kernel
theorem dX11_add_135 : decode cX11_add 135 = .ok (.bastore, 1) := by decide +kernel
theorem dX11_add_136 : decode cX11_add 136 = .ok (.aload_n 0, 1) := by decide +kernel
theorem dX11_add_137 : decode cX11_add 137 = .ok (.getfield 13, 3) := by decide +kernel
theorem dX11_add_140 : decode cX11_add 140 = .ok (.iload 4, 2) := by decide +kernel
theorem dX11_add_142 : decode cX11_add 142 = .ok (.iload_n 3, 1) := by decide +kernel
theorem dX11_add_143 : decode cX11_add 143 = .ok (.iastore, 1) := by decide +kernel
theorem dX11_add_144 : decode cX11_add 144 = .ok (.aload_n 0, 1) := by decide +kernel
theorem dX11_add_145 : decode cX11_add 145 = .ok (.getfield 17, 3) := by decide +kernel
theorem dX11_add_148 : decode cX11_add 148 = .ok (.iload 4, 2) := by decide +kernel
theorem dX11_add_150 : decode cX11_add 150 = .ok (.iload_n 1, 1) := by decide +kernel
theorem dX11_add_151 : decode cX11_add 151 = .ok (.iastore, 1) := by decide +kernel
theorem dX11_add_152 : decode cX11_add 152 = .ok (.aload_n 0, 1) := by decide +kernel
theorem dX11_add_153 : decode cX11_add 153 = .ok (.getfield 47, 3) := by decide +kernel
theorem dX11_add_156 : decode cX11_add 156 = .ok (.iload 4, 2) := by decide +kernel
theorem dX11_add_158 : decode cX11_add 158 = .ok (.iconst (-1), 1) := by decide +kernel
theorem dX11_add_159 : decode cX11_add 159 = .ok (.iastore, 1) := by decide +kernel
theorem dX11_add_160 : decode cX11_add 160 = .ok (.aload_n 0, 1) := by decide +kernel
theorem dX11_add_161 : decode cX11_add 161 = .ok (.getfield 50, 3) := by decide +kernel
theorem dX11_add_164 : decode cX11_add 164 = .ok (.iload 4, 2) := by decide +kernel
theorem dX11_add_166 : decode cX11_add 166 = .ok (.iconst 1, 1) := by decide +kernel
theorem dX11_add_167 : decode cX11_add 167 = .ok (.iastore, 1) := by decide +kernel
theorem dX11_add_168 : decode cX11_add 168 = .ok (.aload_n 0, 1) := by decide +kernel
theorem dX11_add_169 : decode cX11_add 169 = .ok (.getfield 53, 3) := by decide +kernel
theorem dX11_add_172 : decode cX11_add 172 = .ok (.iload 4, 2) := by decide +kernel
theorem dX11_add_174 : decode cX11_add 174 = .ok (.iconst (-1), 1) := by decide +kernel
theorem dX11_add_175 : decode cX11_add 175 = .ok (.iastore, 1) := by decide +kernel
theorem dX11_add_176 : decode cX11_add 176 = .ok (.aload_n 0, 1) := by decide +kernel
theorem dX11_add_177 : decode cX11_add 177 = .ok (.iload 4, 2) := by decide +kernel
theorem dX11_add_179 : decode cX11_add 179 = .ok (.invokevirtual 289, 3) := by decide +kernel
theorem dX11_add_182 : decode cX11_add 182 = .ok (.aload_n 0, 1) := by decide +kernel
theorem dX11_add_183 : decode cX11_add 183 = .ok (.getfield 23, 3) := by decide +kernel
theorem dX11_add_186 : decode cX11_add 186 = .ok (.iload_n 1, 1) := by decide +kernel
theorem dX11_add_187 : decode cX11_add 187 = .ok (.iaload, 1) := by decide +kernel
theorem dX11_add_188 : decode cX11_add 188 = .ok (.istore 5, 2) := by decide +kernel
theorem dX11_add_190 : decode cX11_add 190 = .ok (.iload 5, 2) := by decide +kernel
theorem dX11_add_192 : decode cX11_add 192 = .ok (.iload_n 2, 1) := by decide +kernel
theorem dX11_add_193 : decode cX11_add 193 = .ok (.if_icmp .le 35, 3) := by decide +kernel
theorem dX11_add_196 : decode cX11_add 196 = .ok (.aload_n 0, 1) := by decide +kernel
theorem dX11_add_197 : decode cX11_add 197 = .ok (.getfield 20, 3) := by decide +kernel
theorem dX11_add_200 : decode cX11_add 200 = .ok (.bipush 10, 2) := by decide +kernel
theorem dX11_add_202 : decode cX11_add 202 = .ok (.iload_n 1, 1) := by decide +kernel
theorem dX11_add_203 : decode cX11_add 203 = .ok (.imul, 1) := by decide +kernel
theorem dX11_add_204 : decode cX11_add 204 = .ok (.iload 5, 2) := by decide +kernel
theorem dX11_add_206 : decode cX11_add 206 = .ok (.iadd, 1) := by decide +kernel
theorem dX11_add_207 : decode cX11_add 207 = .ok (.aload_n 0, 1) := by decide +kernel
theorem dX11_add_208 : decode cX11_add 208 = .ok (.getfield 20, 3) := by decide +kernel
theorem dX11_add_211 : decode cX11_add 211 = .ok (.bipush 10, 2) := by decide +kernel
theorem dX11_add_213 : decode cX11_add 213 = .ok (.iload_n 1, 1) := by decide +kernel
theorem dX11_add_214 : decode cX11_add 214 = .ok (.imul, 1) := by decide +kernel
theorem dX11_add_215 : decode cX11_add 215 = .ok (.iload 5, 2) := by decide +kernel
theorem dX11_add_217 : decode cX11_add 217 = .ok (.iadd, 1) := by decide +kernel
theorem dX11_add_218 : decode cX11_add 218 = .ok (.iconst 1, 1) := by decide +kernel
theorem dX11_add_219 : decode cX11_add 219 = .ok (.isub, 1) := by decide +kernel
theorem dX11_add_220 : decode cX11_add 220 = .ok (.iaload, 1) := by decide +kernel
theorem dX11_add_221 : decode cX11_add 221 = .ok (.iastore, 1) := by decide +kernel
theorem dX11_add_222 : decode cX11_add 222 = .ok (.iinc 5 (-1), 3) := by decide +kernel
theorem dX11_add_225 : decode cX11_add 225 = .ok (.goto (-35), 3) := by decide +kernel
theorem dX11_add_228 : decode cX11_add 228 = .ok (.aload_n 0, 1) := by decide +kernel
theorem dX11_add_229 : decode cX11_add 229 = .ok (.getfield 20, 3) := by decide +kernel
theorem dX11_add_232 : decode cX11_add 232 = .ok (.bipush 10, 2) := by decide +kernel
theorem dX11_add_234 : decode cX11_add 234 = .ok (.iload_n 1, 1) := by decide +kernel
theorem dX11_add_235 : decode cX11_add 235 = .ok (.imul, 1) := by decide +kernel
theorem dX11_add_236 : decode cX11_add 236 = .ok (.iload_n 2, 1) := by decide +kernel
theorem dX11_add_237 : decode cX11_add 237 = .ok (.iadd, 1) := by decide +kernel
theorem dX11_add_238 : decode cX11_add 238 = .ok (.iload 4, 2) := by decide +kernel
theorem dX11_add_240 : decode cX11_add 240 = .ok (.iastore, 1) := by decide +kernel
theorem dX11_add_241 : decode cX11_add 241 = .ok (.aload_n 0, 1) := by decide +kernel
theorem dX11_add_242 : decode cX11_add 242 = .ok (.getfield 23, 3) := by decide +kernel
theorem dX11_add_245 : decode cX11_add 245 = .ok (.iload_n 1, 1) := by decide +kernel
theorem dX11_add_246 : decode cX11_add 246 = .ok (.dup2, 1) := by decide +kernel
theorem dX11_add_247 : decode cX11_add 247 = .ok (.iaload, 1) := by decide +kernel
theorem dX11_add_248 : decode cX11_add 248 = .ok (.iconst 1, 1) := by decide +kernel
theorem dX11_add_249 : decode cX11_add 249 = .ok (.iadd, 1) := by decide +kernel
theorem dX11_add_250 : decode cX11_add 250 = .ok (.iastore, 1) := by decide +kernel
theorem dX11_add_251 : decode cX11_add 251 = .ok (.aload_n 0, 1) := by decide +kernel
theorem dX11_add_252 : decode cX11_add 252 = .ok (.iload 4, 2) := by decide +kernel
theorem dX11_add_254 : decode cX11_add 254 = .ok (.invokevirtual 292, 3) := by decide +kernel
theorem dX11_add_257 : decode cX11_add 257 = .ok (.aload_n 0, 1) := by decide +kernel
theorem dX11_add_258 : decode cX11_add 258 = .ok (.invokevirtual 295, 3) := by decide +kernel
theorem dX11_add_261 : decode cX11_add 261 = .ok (.iload 4, 2) := by decide +kernel
theorem dX11_add_263 : decode cX11_add 263 = .ok (.ireturn, 1) := by decide +kernel
theorem dX11_refuge_0 : decode cX11_refuge 0 = .ok (.iload_n 2, 1) := by decide +kernel
theorem dX11_refuge_1 : decode cX11_refuge 1 = .ok (.istore 4, 2) := by decide +kernel
theorem dX11_refuge_3 : decode cX11_refuge 3 = .ok (.iload 4, 2) := by decide +kernel
theorem dX11_refuge_5 : decode cX11_refuge 5 = .ok (.aload_n 0, 1) := by decide +kernel
theorem dX11_refuge_6 : decode cX11_refuge 6 = .ok (.getfield 23, 3) := by decide +kernel
theorem dX11_refuge_9 : decode cX11_refuge 9 = .ok (.iload_n 1, 1) := by decide +kernel
theorem dX11_refuge_10 : decode cX11_refuge 10 = .ok (.iaload, 1) := by decide +kernel
theorem dX11_refuge_11 : decode cX11_refuge 11 = .ok (.if_icmp .ge 42, 3) := by decide +kernel
theorem dX11_refuge_14 : decode cX11_refuge 14 = .ok (.aload_n 0, 1) := by decide +kernel
theorem dX11_refuge_15 : decode cX11_refuge 15 = .ok (.getfield 44, 3) := by decide +kernel
theorem dX11_refuge_18 : decode cX11_refuge 18 = .ok (.aload_n 0, 1) := by decide +kernel
theorem dX11_refuge_19 : decode cX11_refuge 19 = .ok (.getfield 20, 3) := by decide +kernel
theorem dX11_refuge_22 : decode cX11_refuge 22 = .ok (.bipush 10, 2) := by decide +kernel
theorem dX11_refuge_24 : decode cX11_refuge 24 = .ok (.iload_n 1, 1) := by decide +kernel
theorem dX11_refuge_25 : decode cX11_refuge 25 = .ok (.imul, 1) := by decide +kernel
theorem dX11_refuge_26 : decode cX11_refuge 26 = .ok (.iload 4, 2) := by decide +kernel
theorem dX11_refuge_28 : decode cX11_refuge 28 = .ok (.iadd, 1) := by decide +kernel
theorem dX11_refuge_29 : decode cX11_refuge 29 = .ok (.iaload, 1) := by decide +kernel
theorem dX11_refuge_30 : decode cX11_refuge 30 = .ok (.baload, 1) := by decide +kernel
theorem dX11_refuge_31 : decode cX11_refuge 31 = .ok (.ifCond .ne 16, 3) := by decide +kernel
theorem dX11_refuge_34 : decode cX11_refuge 34 = .ok (.aload_n 0, 1) := by decide +kernel
theorem dX11_refuge_35 : decode cX11_refuge 35 = .ok (.getfield 20, 3) := by decide +kernel
theorem dX11_refuge_38 : decode cX11_refuge 38 = .ok (.bipush 10, 2) := by decide +kernel
theorem dX11_refuge_40 : decode cX11_refuge 40 = .ok (.iload_n 1, 1) := by decide +kernel
theorem dX11_refuge_41 : decode cX11_refuge 41 = .ok (.imul, 1) := by decide +kernel
theorem dX11_refuge_42 : decode cX11_refuge 42 = .ok (.iload 4, 2) := by decide +kernel
theorem dX11_refuge_44 : decode cX11_refuge 44 = .ok (.iadd, 1) := by decide +kernel
theorem dX11_refuge_45 : decode cX11_refuge 45 = .ok (.iaload, 1) := by decide +kernel
theorem dX11_refuge_46 : decode cX11_refuge 46 = .ok (.ireturn, 1) := by decide +kernel
theorem dX11_refuge_47 : decode cX11_refuge 47 = .ok (.iinc 4 1, 3) := by decide +kernel
theorem dX11_refuge_50 : decode cX11_refuge 50 = .ok (.goto (-47), 3) := by decide +kernel
theorem dX11_refuge_53 : decode cX11_refuge 53 = .ok (.iload_n 3, 1) := by decide +kernel
theorem dX11_refuge_54 : decode cX11_refuge 54 = .ok (.istore 4, 2) := by decide +kernel
theorem dX11_refuge_56 : decode cX11_refuge 56 = .ok (.iload 4, 2) := by decide +kernel
theorem dX11_refuge_58 : decode cX11_refuge 58 = .ok (.ifCond .lt 42, 3) := by decide +kernel
theorem dX11_refuge_61 : decode cX11_refuge 61 = .ok (.aload_n 0, 1) := by decide +kernel
theorem dX11_refuge_62 : decode cX11_refuge 62 = .ok (.getfield 44, 3) := by decide +kernel
theorem dX11_refuge_65 : decode cX11_refuge 65 = .ok (.aload_n 0, 1) := by decide +kernel
theorem dX11_refuge_66 : decode cX11_refuge 66 = .ok (.getfield 20, 3) := by decide +kernel
theorem dX11_refuge_69 : decode cX11_refuge 69 = .ok (.bipush 10, 2) := by decide +kernel
theorem dX11_refuge_71 : decode cX11_refuge 71 = .ok (.iload_n 1, 1) := by decide +kernel
theorem dX11_refuge_72 : decode cX11_refuge 72 = .ok (.imul, 1) := by decide +kernel
theorem dX11_refuge_73 : decode cX11_refuge 73 = .ok (.iload 4, 2) := by decide +kernel
theorem dX11_refuge_75 : decode cX11_refuge 75 = .ok (.iadd, 1) := by decide +kernel
theorem dX11_refuge_76 : decode cX11_refuge 76 = .ok (.iaload, 1) := by decide +kernel
theorem dX11_refuge_77 : decode cX11_refuge 77 = .ok (.baload, 1) := by decide +kernel
theorem dX11_refuge_78 : decode cX11_refuge 78 = .ok (.ifCond .ne 16, 3) := by decide +kernel
theorem dX11_refuge_81 : decode cX11_refuge 81 = .ok (.aload_n 0, 1) := by decide +kernel
theorem dX11_refuge_82 : decode cX11_refuge 82 = .ok (.getfield 20, 3) := by decide +kernel
theorem dX11_refuge_85 : decode cX11_refuge 85 = .ok (.bipush 10, 2) := by decide +kernel
theorem dX11_refuge_87 : decode cX11_refuge 87 = .ok (.iload_n 1, 1) := by decide +kernel
theorem dX11_refuge_88 : decode cX11_refuge 88 = .ok (.imul, 1) := by decide +kernel
theorem dX11_refuge_89 : decode cX11_refuge 89 = .ok (.iload 4, 2) := by decide +kernel
theorem dX11_refuge_91 : decode cX11_refuge 91 = .ok (.iadd, 1) := by decide +kernel
theorem dX11_refuge_92 : decode cX11_refuge 92 = .ok (.iaload, 1) := by decide +kernel
theorem dX11_refuge_93 : decode cX11_refuge 93 = .ok (.ireturn, 1) := by decide +kernel
theorem dX11_refuge_94 : decode cX11_refuge 94 = .ok (.iinc 4 (-1), 3) := by decide +kernel
theorem dX11_refuge_97 : decode cX11_refuge 97 = .ok (.goto (-41), 3) := by decide +kernel
theorem dX11_refuge_100 : decode cX11_refuge 100 = .ok (.iload_n 1, 1) := by decide +kernel
theorem dX11_refuge_101 : decode cX11_refuge 101 = .ok (.ireturn, 1) := by decide +kernel
abbrev mX11_canHave : gM := (yX11_canHave, cX11_canHave, 2, (Option.some FieldType.boolean), [])
theorem caX11_canHave : cal mX11_canHave 2 := ⟨xw 1587 (by decide +kernel) rfl, xw 102 (by decide +kernel) rfl, by decide, by decide +kernel⟩
theorem csX11_canHave : Cond.static yX11_canHave ∈ XW := xw 1586 (by decide +kernel) rfl
abbrev mX11_takeDraft : gM := (yX11_takeDraft, cX11_takeDraft, 2, (Option.none : Option FieldType), [])
theorem caX11_takeDraft : cal mX11_takeDraft 1 := ⟨xw 1591 (by decide +kernel) rfl, xw 102 (by decide +kernel) rfl, by decide, by decide +kernel⟩
theorem cvX11_takeDraft : calV mX11_takeDraft := ⟨xw 1590 (by decide +kernel) rfl, xw 29 (by decide +kernel) rfl⟩
abbrev mX11_add : gM := (yX11_add, cX11_add, 6, (Option.some FieldType.int), [])
theorem caX11_add : cal mX11_add 3 := ⟨xw 1580 (by decide +kernel) rfl, xw 102 (by decide +kernel) rfl, by decide, by decide +kernel⟩
theorem cvX11_add : calV mX11_add := ⟨xw 1578 (by decide +kernel) rfl, xw 1579 (by decide +kernel) rfl⟩
abbrev mX11_refuge : gM := (yX11_refuge, cX11_refuge, 5, (Option.some FieldType.int), [])
theorem caX11_refuge : cal mX11_refuge 3 := ⟨xw 1741 (by decide +kernel) rfl, xw 102 (by decide +kernel) rfl, by decide, by decide +kernel⟩
theorem cvX11_refuge : calV mX11_refuge := ⟨xw 1740 (by decide +kernel) rfl, xw 59 (by decide +kernel) rfl⟩
theorem lkX11_285 : Cond.methodLink RX11 285 yX11_canHave ∈ XW := xw 1585 (by decide +kernel) rfl
theorem lkX11_289 : Cond.methodLink RX11 289 yX11_takeDraft ∈ XW := xw 1588 (by decide +kernel) rfl
theorem lkX11_292 : Cond.methodLink RX11 292 yX11_tellWords ∈ XW := xw 1595 (by decide +kernel) rfl
theorem lkX11_295 : Cond.methodLink RX11 295 yX11_fitOffset ∈ XW := xw 1679 (by decide +kernel) rfl
/-! BrailleDeskModel.canHave -/
theorem tX11_canHave {G : gG} (a0 : Int32) (a1 : Int32) (h : hp) (Q : hQ) (hF : okB (fX11_canHave a0 a1) (pP gI Q h)) : gS G mX11_canHave 1 0 0 [si a0, si a1] h Q := by
  delta fX11_canHave at hF
  refine gS_at [some (si a0), some (si a1)] pl_X11 rfl (Nat.le_of_ble_eq_true rfl) rfl ?_
  refine v_iload_n (pc := 0) (i := 0) dX11_canHave_0 rfl rfl ?_
  refine mgR (X := fun q1 => gV G mX11_canHave 1 Q 10 [none, some (si a1)] [] (0) (0) h) hF (fun _ hj2 hr2 hF => ?_) (fun q1 hF => ?_)
  · refine v_if_eq (pc := 1) 10 dX11_canHave_1 rfl (fun hc => ?_) (fun hc => ?_)
    · replace hF := (okB_if hF).1 hc
      exact v_lle [none, some (si a1)] ⟨rfl, trivial⟩ (hj2 () (okB_some hF))
    replace hF := (okB_if hF).2 hc
    refine v_iload_n (pc := 4) (i := 0) dX11_canHave_4 rfl rfl ?_
    refine v_bipush (pc := 5) (v := (7 : Int32)) dX11_canHave_5 rfl ?_
    refine v_icmp_ne (pc := 7) 22 dX11_canHave_7 rfl (fun hc => ?_) (fun hc => ?_)
    · replace hF := (okB_if hF).2 hc
      refine v_iload_n (pc := 22) (i := 0) dX11_canHave_22 rfl rfl ?_
      refine v_iconst (pc := 23) (v := (5 : Int32)) dX11_canHave_23 rfl ?_
      refine v_icmp_ne (pc := 24) 41 dX11_canHave_24 rfl (fun hc => ?_) (fun hc => ?_)
      · replace hF := (okB_if hF).2 hc
        refine v_iload_n (pc := 41) (i := 0) dX11_canHave_41 rfl rfl ?_
        refine v_bipush (pc := 42) (v := (6 : Int32)) dX11_canHave_42 rfl ?_
        refine v_icmp_ne (pc := 44) 60 dX11_canHave_44 rfl (fun hc => ?_) (fun hc => ?_)
        · replace hF := (okB_if hF).2 hc
          refine v_iconst (pc := 60) (v := (0 : Int32)) dX11_canHave_60 rfl ?_
          exact v_iret (pc := 61) dX11_canHave_61 rfl rfl (hr2 _ (okB_some hF))
        replace hF := (okB_if hF).1 hc
        refine v_iload_n (pc := 47) (i := 1) dX11_canHave_47 rfl rfl ?_
        refine v_iconst (pc := 48) (v := (1 : Int32)) dX11_canHave_48 rfl ?_
        refine v_iconst (pc := 49) (v := (4 : Int32)) dX11_canHave_49 rfl ?_
        refine cp_S (pc := 50) gI (as := [si a1, si (1 : Int32), si (4 : Int32)]) (st := []) (N := mX11_in) (k := 0) (n := 0) (k1 := 0) (n1 := 0) dX11_canHave_50 lkX11_114 caX11_in csX11_in rfl (fun Q1 hq => tX11_in a1 (1 : Int32) (4 : Int32) h Q1 hq) ⟨by decide, by decide⟩ (Nat.le_of_ble_eq_true rfl) rfl hF (fun x3 hF => ?_)
        show gV G mX11_canHave 1 Q 53 [some (si a0), some (si a1)] [si x3] (0) (0) h
        refine v_if_eq (pc := 53) 60 dX11_canHave_53 rfl (fun hc => ?_) (fun hc => ?_)
        · replace hF := (okB_if hF).1 hc
          refine v_iconst (pc := 60) (v := (0 : Int32)) dX11_canHave_60 rfl ?_
          exact v_iret (pc := 61) dX11_canHave_61 rfl rfl (hr2 _ (okB_some hF))
        replace hF := (okB_if hF).2 hc
        refine v_iconst (pc := 56) (v := (1 : Int32)) dX11_canHave_56 rfl ?_
        refine v_goto (pc := 57) 61 dX11_canHave_57 rfl ?_
        exact v_iret (pc := 61) dX11_canHave_61 rfl rfl (hr2 _ (okB_some hF))
      replace hF := (okB_if hF).1 hc
      refine v_iload_n (pc := 27) (i := 1) dX11_canHave_27 rfl rfl ?_
      refine v_bipush (pc := 28) (v := (6 : Int32)) dX11_canHave_28 rfl ?_
      refine v_icmp_ne (pc := 30) 37 dX11_canHave_30 rfl (fun hc => ?_) (fun hc => ?_)
      · replace hF := (okB_if hF).2 hc
        refine v_iconst (pc := 37) (v := (0 : Int32)) dX11_canHave_37 rfl ?_
        refine v_goto (pc := 38) 61 dX11_canHave_38 rfl ?_
        exact v_iret (pc := 61) dX11_canHave_61 rfl rfl (hr2 _ (okB_some hF))
      replace hF := (okB_if hF).1 hc
      refine v_iconst (pc := 33) (v := (1 : Int32)) dX11_canHave_33 rfl ?_
      refine v_goto (pc := 34) 61 dX11_canHave_34 rfl ?_
      exact v_iret (pc := 61) dX11_canHave_61 rfl rfl (hr2 _ (okB_some hF))
    replace hF := (okB_if hF).1 hc
    exact v_lle [none, some (si a1)] ⟨rfl, trivial⟩ (hj2 () (okB_some hF))
  refine v_iload_n (pc := 10) (i := 1) dX11_canHave_10 rfl rfl ?_
  refine v_bipush (pc := 11) (v := (6 : Int32)) dX11_canHave_11 rfl ?_
  refine v_icmp_eq (pc := 13) 20 dX11_canHave_13 rfl (fun hc => ?_) (fun hc => ?_)
  · replace hF := (okB_if hF).1 hc
    refine v_iconst (pc := 20) (v := (0 : Int32)) dX11_canHave_20 rfl ?_
    exact v_iret (pc := 21) dX11_canHave_21 rfl rfl (okr hF fun q => q)
  replace hF := (okB_if hF).2 hc
  refine v_iconst (pc := 16) (v := (1 : Int32)) dX11_canHave_16 rfl ?_
  refine v_goto (pc := 17) 21 dX11_canHave_17 rfl ?_
  exact v_iret (pc := 21) dX11_canHave_21 rfl rfl (okr hF fun q => q)
/-! BrailleDeskModel.takeDraft -/
theorem tX11_takeDraft {G : gG} (a0 : Nat) (h : hp) (a1 : Int32) (m : mm) (Q : hQ) (hF : okB (fX11_takeDraft a1 m) (pM gU Q a0 h)) : gS G mX11_takeDraft 1 0 0 [sr (some a0), si a1] (jn a0 h m) Q := by
  delta fX11_takeDraft at hF
  refine gS_at [some (sr (some a0)), some (si a1)] pl_X11 rfl (Nat.le_of_ble_eq_true rfl) rfl ?_
  refine v_aload_n (pc := 0) (i := 0) dX11_takeDraft_0 rfl rfl ?_
  refine m_getA (pc := 1) (j := 18) dX11_takeDraft_1 flX11_62 rfl (by decide) ?_
  refine v_iconst (pc := 4) (v := (0 : Int32)) dX11_takeDraft_4 rfl ?_
  refine v_aload_n (pc := 5) (i := 0) dX11_takeDraft_5 rfl rfl ?_
  refine m_getA (pc := 6) (j := 6) dX11_takeDraft_6 flX11_26 rfl (by decide) ?_
  refine v_bipush (pc := 9) (v := (12 : Int32)) dX11_takeDraft_9 rfl ?_
  refine v_iload_n (pc := 11) (i := 1) dX11_takeDraft_11 rfl rfl ?_
  refine v_imul (pc := 12) dX11_takeDraft_12 ?_
  refine v_aload_n (pc := 13) (i := 0) dX11_takeDraft_13 rfl rfl ?_
  refine m_getI (pc := 14) (j := 19) dX11_takeDraft_14 flX11_282 rfl rfl ?_
  refine chM_S (a0 := a0) (h := h) (pc := 17) gU (as := [sr (some (a0 + mo 18)), si (0 : Int32), sr (some (a0 + mo 6)), si ((12 : Int32) * a1), si (m 19 0)]) (st := []) (N := mX11_copy) (k := 0) (n := 0) (k1 := 0) (n1 := 0) dX11_takeDraft_17 lkX11_181 caX11_copy csX11_copy rfl (fun Q1 hq => tX11_copy a0 h 18 (0 : Int32) 6 ((12 : Int32) * a1) (m 19 0) m Q1 hq) ⟨by decide, by decide⟩ (Nat.le_of_ble_eq_true rfl) rfl hF (fun x1 m2 hF => ?_)
  show gV G mX11_takeDraft 1 Q 20 [some (sr (some a0)), some (si a1)] [] (0) (0) (jn a0 h m2)
  refine v_aload_n (pc := 20) (i := 0) dX11_takeDraft_20 rfl rfl ?_
  refine m_getA (pc := 21) (j := 7) dX11_takeDraft_21 flX11_29 rfl (by decide) ?_
  refine v_iload_n (pc := 24) (i := 1) dX11_takeDraft_24 rfl rfl ?_
  refine v_aload_n (pc := 25) (i := 0) dX11_takeDraft_25 rfl rfl ?_
  refine m_getI (pc := 26) (j := 19) dX11_takeDraft_26 flX11_282 rfl rfl ?_
  refine m_iast (pc := 29) (j := 7) dX11_takeDraft_29 hF (fun m3 hF => ?_)
  refine v_aload_n (pc := 30) (i := 0) dX11_takeDraft_30 rfl rfl ?_
  refine v_iconst (pc := 31) (v := (0 : Int32)) dX11_takeDraft_31 rfl ?_
  refine m_putI (pc := 32) (j := 19) dX11_takeDraft_32 flX11_282 rfl rfl rfl hF (fun m4 hF => ?_)
  exact v_ret (pc := 35) dX11_takeDraft_35 rfl (okr hF fun q => q)
/-! BrailleDeskModel.add -/
theorem lX11_add_190 {G : gG} {Q : hQ} {P : mm → Prop} {k n : Nat} (a0 : Nat) (h : hp) (c1 : Int32) (c2 : Int32) (c4 : Int32) (hJ : ∀ q : mm, P q → gV G mX11_add 6 Q 228 [some (sr (some a0)), some (si c1), some (si c2), none, some (si c4), none] [] (k) (n) (jn a0 h q)) : ∀ (fu : Nat) (a : (Int32 × mm)), okB (itr (fX11_add_B190 c1 c2 c4) fu a) P → gV G mX11_add 6 Q 190 [some (sr (some a0)), some (si c1), some (si c2), none, some (si c4), some (si a.1)] [] (k) (n) (jn a0 h a.2) :=
  lpg (X := fun (a : (Int32 × mm)) => gV G mX11_add 6 Q 190 [some (sr (some a0)), some (si c1), some (si c2), none, some (si c4), some (si a.1)] [] (k) (n) (jn a0 h a.2)) (fun a P2 hL hE hF => by
    delta fX11_add_B190 at hF
    refine v_iload (pc := 190) (i := 5) dX11_add_190 rfl ?_
    refine v_iload_n (pc := 192) (i := 2) dX11_add_192 rfl rfl ?_
    refine v_icmp_le (pc := 193) 228 dX11_add_193 rfl (fun hc => ?_) (fun hc => ?_)
    · replace hF := (okB_if hF).1 hc
      exact v_lle [some (sr (some a0)), some (si c1), some (si c2), none, some (si c4), none] ⟨rfl, rfl, rfl, rfl, trivial⟩ (hJ a.2 (hE _ (okB_some hF)))
    replace hF := (okB_if hF).2 hc
    refine v_aload_n (pc := 196) (i := 0) dX11_add_196 rfl rfl ?_
    refine m_getA (pc := 197) (j := 4) dX11_add_197 flX11_20 rfl (by decide) ?_
    refine v_bipush (pc := 200) (v := (10 : Int32)) dX11_add_200 rfl ?_
    refine v_iload_n (pc := 202) (i := 1) dX11_add_202 rfl rfl ?_
    refine v_imul (pc := 203) dX11_add_203 ?_
    refine v_iload (pc := 204) (i := 5) dX11_add_204 rfl ?_
    refine v_iadd (pc := 206) dX11_add_206 ?_
    refine v_aload_n (pc := 207) (i := 0) dX11_add_207 rfl rfl ?_
    refine m_getA (pc := 208) (j := 4) dX11_add_208 flX11_20 rfl (by decide) ?_
    refine v_bipush (pc := 211) (v := (10 : Int32)) dX11_add_211 rfl ?_
    refine v_iload_n (pc := 213) (i := 1) dX11_add_213 rfl rfl ?_
    refine v_imul (pc := 214) dX11_add_214 ?_
    refine v_iload (pc := 215) (i := 5) dX11_add_215 rfl ?_
    refine v_iadd (pc := 217) dX11_add_217 ?_
    refine v_iconst (pc := 218) (v := (1 : Int32)) dX11_add_218 rfl ?_
    refine v_isub (pc := 219) dX11_add_219 ?_
    refine m_iald (pc := 220) (j := 4) dX11_add_220 hF (fun x1 hF => ?_)
    refine m_iast (pc := 221) (j := 4) dX11_add_221 hF (fun m2 hF => ?_)
    refine v_iinc (pc := 222) (i := 5) (a.1 + (-1 : Int32)) [some (sr (some a0)), some (si c1), some (si c2), none, some (si c4), some (si (a.1 + (-1 : Int32)))] dX11_add_222 rfl rfl rfl rfl ?_
    refine v_goto (pc := 225) 190 dX11_add_225 rfl ?_
    exact v_lle [some (sr (some a0)), some (si c1), some (si c2), none, some (si c4), some (si (a.1 + (-1 : Int32)))] ⟨rfl, rfl, rfl, rfl, rfl, trivial⟩ (hL (a.1 + (-1 : Int32), m2) (okB_some hF)))
theorem tX11_add {G : gG} (a0 : Nat) (h : hp) (a1 : Int32) (a2 : Int32) (a3 : Int32) (m : mm) (Q : hQ) (hF : okB (fX11_add a1 a2 a3 m) (pM gI Q a0 h)) : gS G mX11_add 6 0 0 [sr (some a0), si a1, si a2, si a3] (jn a0 h m) Q := by
  delta fX11_add at hF
  refine gS_at [some (sr (some a0)), some (si a1), some (si a2), some (si a3), none, none] pl_X11 rfl (Nat.le_of_ble_eq_true rfl) rfl ?_
  refine v_aload_n (pc := 0) (i := 0) dX11_add_0 rfl rfl ?_
  refine v_aload_n (pc := 1) (i := 0) dX11_add_1 rfl rfl ?_
  refine v_iload_n (pc := 2) (i := 1) dX11_add_2 rfl rfl ?_
  refine cpM_V (pc := 3) gI (as := [si a1]) (st := [sr (some a0)]) (N := mX11_isElement) (k := 0) (n := 0) (k1 := 0) (n1 := 0) dX11_add_3 lkX11_118 caX11_isElement cvX11_isElement rfl rfl (fun Q1 hq => tX11_isElement a0 h a1 m Q1 hq) ⟨by decide, by decide⟩ (Nat.le_of_ble_eq_true rfl) rfl hF (fun x1 hF => ?_)
  show gV G mX11_add 6 Q 6 [some (sr (some a0)), some (si a1), some (si a2), some (si a3), none, none] [si x1, sr (some a0)] (0) (0) (jn a0 h m)
  refine mg (X := fun q2 => gV G mX11_add 6 Q 42 [some (sr (some a0)), some (si a1), some (si a2), some (si a3), none, none] [si q2, sr (some a0)] (0) (0) (jn a0 h m)) hF (fun _ hj3 hF => ?_) (fun q2 hF => ?_)
  · refine v_if_ne (pc := 6) 13 dX11_add_6 rfl (fun hc => ?_) (fun hc => ?_)
    · replace hF := (okB_if hF).2 hc
      refine v_iload_n (pc := 13) (i := 2) dX11_add_13 rfl rfl ?_
      refine v_iconst (pc := 14) (v := (0 : Int32)) dX11_add_14 rfl ?_
      refine v_aload_n (pc := 15) (i := 0) dX11_add_15 rfl rfl ?_
      refine m_getA (pc := 16) (j := 5) dX11_add_16 flX11_23 rfl (by decide) ?_
      refine v_iload_n (pc := 19) (i := 1) dX11_add_19 rfl rfl ?_
      refine m_iald (pc := 20) (j := 5) dX11_add_20 hF (fun x4 hF => ?_)
      refine cp_S (pc := 21) gI (as := [si a2, si (0 : Int32), si x4]) (st := [sr (some a0)]) (N := mX11_in) (k := 0) (n := 0) (k1 := 0) (n1 := 0) dX11_add_21 lkX11_114 caX11_in csX11_in rfl (fun Q1 hq => tX11_in a2 (0 : Int32) x4 (jn a0 h m) Q1 hq) ⟨by decide, by decide⟩ (Nat.le_of_ble_eq_true rfl) rfl hF (fun x5 hF => ?_)
      show gV G mX11_add 6 Q 24 [some (sr (some a0)), some (si a1), some (si a2), some (si a3), none, none] [si x5, sr (some a0)] (0) (0) (jn a0 h m)
      refine v_if_eq (pc := 24) 37 dX11_add_24 rfl (fun hc => ?_) (fun hc => ?_)
      · replace hF := (okB_if hF).1 hc
        refine v_iconst (pc := 37) (v := (2 : Int32)) dX11_add_37 rfl ?_
        refine v_goto (pc := 38) 42 dX11_add_38 rfl ?_
        exact v_lle [some (sr (some a0)), some (si a1), some (si a2), some (si a3), none, none] ⟨rfl, rfl, rfl, rfl, trivial⟩ (hj3 (2 : Int32) (okB_some hF))
      replace hF := (okB_if hF).2 hc
      refine v_iload_n (pc := 27) (i := 3) dX11_add_27 rfl rfl ?_
      refine v_iconst (pc := 28) (v := (0 : Int32)) dX11_add_28 rfl ?_
      refine v_bipush (pc := 29) (v := (7 : Int32)) dX11_add_29 rfl ?_
      refine cp_S (pc := 31) gI (as := [si a3, si (0 : Int32), si (7 : Int32)]) (st := [sr (some a0)]) (N := mX11_in) (k := 0) (n := 0) (k1 := 0) (n1 := 0) dX11_add_31 lkX11_114 caX11_in csX11_in rfl (fun Q1 hq => tX11_in a3 (0 : Int32) (7 : Int32) (jn a0 h m) Q1 hq) ⟨by decide, by decide⟩ (Nat.le_of_ble_eq_true rfl) rfl hF (fun x6 hF => ?_)
      show gV G mX11_add 6 Q 34 [some (sr (some a0)), some (si a1), some (si a2), some (si a3), none, none] [si x6, sr (some a0)] (0) (0) (jn a0 h m)
      refine v_if_ne (pc := 34) 41 dX11_add_34 rfl (fun hc => ?_) (fun hc => ?_)
      · replace hF := (okB_if hF).2 hc
        refine v_iconst (pc := 41) (v := (0 : Int32)) dX11_add_41 rfl ?_
        exact v_lle [some (sr (some a0)), some (si a1), some (si a2), some (si a3), none, none] ⟨rfl, rfl, rfl, rfl, trivial⟩ (hj3 (0 : Int32) (okB_some hF))
      replace hF := (okB_if hF).1 hc
      refine v_iconst (pc := 37) (v := (2 : Int32)) dX11_add_37 rfl ?_
      refine v_goto (pc := 38) 42 dX11_add_38 rfl ?_
      exact v_lle [some (sr (some a0)), some (si a1), some (si a2), some (si a3), none, none] ⟨rfl, rfl, rfl, rfl, trivial⟩ (hj3 (2 : Int32) (okB_some hF))
    replace hF := (okB_if hF).1 hc
    refine v_iconst (pc := 9) (v := (1 : Int32)) dX11_add_9 rfl ?_
    refine v_goto (pc := 10) 42 dX11_add_10 rfl ?_
    exact v_lle [some (sr (some a0)), some (si a1), some (si a2), some (si a3), none, none] ⟨rfl, rfl, rfl, rfl, trivial⟩ (hj3 (1 : Int32) (okB_some hF))
  refine m_putI (pc := 42) (j := 48) dX11_add_42 flX11_111 rfl rfl rfl hF (fun m7 hF => ?_)
  refine v_aload_n (pc := 45) (i := 0) dX11_add_45 rfl rfl ?_
  refine m_getI (pc := 46) (j := 48) dX11_add_46 flX11_111 rfl rfl ?_
  refine mg (X := fun q8 => gV G mX11_add 6 Q 103 [some (sr (some a0)), some (si a1), some (si a2), some (si a3), none, none] [] (0) (0) (jn a0 h q8)) hF (fun _ hj9 hF => ?_) (fun q8 hF => ?_)
  · refine v_if_ne (pc := 49) 103 dX11_add_49 rfl (fun hc => ?_) (fun hc => ?_)
    · replace hF := (okB_if hF).2 hc
      exact v_lle [some (sr (some a0)), some (si a1), some (si a2), some (si a3), none, none] ⟨rfl, rfl, rfl, rfl, trivial⟩ (hj9 m7 (okB_some hF))
    replace hF := (okB_if hF).1 hc
    refine v_aload_n (pc := 52) (i := 0) dX11_add_52 rfl rfl ?_
    refine v_aload_n (pc := 53) (i := 0) dX11_add_53 rfl rfl ?_
    refine m_getI (pc := 54) (j := 0) dX11_add_54 flX11_101 rfl rfl ?_
    refine v_bipush (pc := 57) (v := (40 : Int32)) dX11_add_57 rfl ?_
    refine v_icmp_eq (pc := 59) 95 dX11_add_59 rfl (fun hc => ?_) (fun hc => ?_)
    · replace hF := (okB_if hF).1 hc
      refine v_iconst (pc := 95) (v := (3 : Int32)) dX11_add_95 rfl ?_
      refine v_goto (pc := 96) 100 dX11_add_96 rfl ?_
      refine m_putI (pc := 100) (j := 48) dX11_add_100 flX11_111 rfl rfl rfl hF (fun m10 hF => ?_)
      exact v_lle [some (sr (some a0)), some (si a1), some (si a2), some (si a3), none, none] ⟨rfl, rfl, rfl, rfl, trivial⟩ (hj9 m10 (okB_some hF))
    replace hF := (okB_if hF).2 hc
    refine v_aload_n (pc := 62) (i := 0) dX11_add_62 rfl rfl ?_
    refine m_getA (pc := 63) (j := 5) dX11_add_63 flX11_23 rfl (by decide) ?_
    refine v_iload_n (pc := 66) (i := 1) dX11_add_66 rfl rfl ?_
    refine m_iald (pc := 67) (j := 5) dX11_add_67 hF (fun x11 hF => ?_)
    refine v_bipush (pc := 68) (v := (10 : Int32)) dX11_add_68 rfl ?_
    refine v_icmp_eq (pc := 70) 95 dX11_add_70 rfl (fun hc => ?_) (fun hc => ?_)
    · replace hF := (okB_if hF).1 hc
      refine v_iconst (pc := 95) (v := (3 : Int32)) dX11_add_95 rfl ?_
      refine v_goto (pc := 96) 100 dX11_add_96 rfl ?_
      refine m_putI (pc := 100) (j := 48) dX11_add_100 flX11_111 rfl rfl rfl hF (fun m12 hF => ?_)
      exact v_lle [some (sr (some a0)), some (si a1), some (si a2), some (si a3), none, none] ⟨rfl, rfl, rfl, rfl, trivial⟩ (hj9 m12 (okB_some hF))
    replace hF := (okB_if hF).2 hc
    refine v_aload_n (pc := 73) (i := 0) dX11_add_73 rfl rfl ?_
    refine m_getA (pc := 74) (j := 2) dX11_add_74 flX11_13 rfl (by decide) ?_
    refine v_iload_n (pc := 77) (i := 1) dX11_add_77 rfl rfl ?_
    refine m_iald (pc := 78) (j := 2) dX11_add_78 hF (fun x13 hF => ?_)
    refine v_iload_n (pc := 79) (i := 3) dX11_add_79 rfl rfl ?_
    refine cp_S (pc := 80) gI (as := [si x13, si a3]) (st := [sr (some a0)]) (N := mX11_canHave) (k := 0) (n := 0) (k1 := 0) (n1 := 0) dX11_add_80 lkX11_285 caX11_canHave csX11_canHave rfl (fun Q1 hq => tX11_canHave x13 a3 (jn a0 h m7) Q1 hq) ⟨by decide, by decide⟩ (Nat.le_of_ble_eq_true rfl) rfl hF (fun x14 hF => ?_)
    show gV G mX11_add 6 Q 83 [some (sr (some a0)), some (si a1), some (si a2), some (si a3), none, none] [si x14, sr (some a0)] (0) (0) (jn a0 h m7)
    refine v_if_eq (pc := 83) 95 dX11_add_83 rfl (fun hc => ?_) (fun hc => ?_)
    · replace hF := (okB_if hF).1 hc
      refine v_iconst (pc := 95) (v := (3 : Int32)) dX11_add_95 rfl ?_
      refine v_goto (pc := 96) 100 dX11_add_96 rfl ?_
      refine m_putI (pc := 100) (j := 48) dX11_add_100 flX11_111 rfl rfl rfl hF (fun m15 hF => ?_)
      exact v_lle [some (sr (some a0)), some (si a1), some (si a2), some (si a3), none, none] ⟨rfl, rfl, rfl, rfl, trivial⟩ (hj9 m15 (okB_some hF))
    replace hF := (okB_if hF).2 hc
    refine v_aload_n (pc := 86) (i := 0) dX11_add_86 rfl rfl ?_
    refine m_getI (pc := 87) (j := 37) dX11_add_87 flX11_191 rfl rfl ?_
    refine v_bipush (pc := 90) (v := (20 : Int32)) dX11_add_90 rfl ?_
    refine v_icmp_lt (pc := 92) 99 dX11_add_92 rfl (fun hc => ?_) (fun hc => ?_)
    · replace hF := (okB_if hF).1 hc
      refine v_iconst (pc := 99) (v := (0 : Int32)) dX11_add_99 rfl ?_
      refine m_putI (pc := 100) (j := 48) dX11_add_100 flX11_111 rfl rfl rfl hF (fun m16 hF => ?_)
      exact v_lle [some (sr (some a0)), some (si a1), some (si a2), some (si a3), none, none] ⟨rfl, rfl, rfl, rfl, trivial⟩ (hj9 m16 (okB_some hF))
    replace hF := (okB_if hF).2 hc
    refine v_iconst (pc := 95) (v := (3 : Int32)) dX11_add_95 rfl ?_
    refine v_goto (pc := 96) 100 dX11_add_96 rfl ?_
    refine m_putI (pc := 100) (j := 48) dX11_add_100 flX11_111 rfl rfl rfl hF (fun m17 hF => ?_)
    exact v_lle [some (sr (some a0)), some (si a1), some (si a2), some (si a3), none, none] ⟨rfl, rfl, rfl, rfl, trivial⟩ (hj9 m17 (okB_some hF))
  refine v_aload_n (pc := 103) (i := 0) dX11_add_103 rfl rfl ?_
  refine m_getI (pc := 104) (j := 48) dX11_add_104 flX11_111 rfl rfl ?_
  refine v_if_le (pc := 107) 112 dX11_add_107 rfl (fun hc => ?_) (fun hc => ?_)
  · replace hF := (okB_if hF).1 hc
    refine v_aload_n (pc := 112) (i := 0) dX11_add_112 rfl rfl ?_
    refine m_getI (pc := 113) (j := 0) dX11_add_113 flX11_101 rfl rfl ?_
    refine v_istore (pc := 116) (i := 4) [some (sr (some a0)), some (si a1), some (si a2), some (si a3), some (si (q8 0 0)), none] dX11_add_116 (by decide) rfl rfl ?_
    refine v_aload_n (pc := 118) (i := 0) dX11_add_118 rfl rfl ?_
    refine v_dup (pc := 119) dX11_add_119 rfl ?_
    refine m_getI (pc := 120) (j := 0) dX11_add_120 flX11_101 rfl rfl ?_
    refine v_iconst (pc := 123) (v := (1 : Int32)) dX11_add_123 rfl ?_
    refine v_iadd (pc := 124) dX11_add_124 ?_
    refine m_putI (pc := 125) (j := 0) dX11_add_125 flX11_101 rfl rfl rfl hF (fun m18 hF => ?_)
    refine v_aload_n (pc := 128) (i := 0) dX11_add_128 rfl rfl ?_
    refine m_getA (pc := 129) (j := 1) dX11_add_129 flX11_7 rfl (by decide) ?_
    refine v_iload (pc := 132) (i := 4) dX11_add_132 rfl ?_
    refine v_iconst (pc := 134) (v := (1 : Int32)) dX11_add_134 rfl ?_
    refine m_zast (pc := 135) (j := 1) dX11_add_135 hF (fun m19 hF => ?_)
    refine v_aload_n (pc := 136) (i := 0) dX11_add_136 rfl rfl ?_
    refine m_getA (pc := 137) (j := 2) dX11_add_137 flX11_13 rfl (by decide) ?_
    refine v_iload (pc := 140) (i := 4) dX11_add_140 rfl ?_
    refine v_iload_n (pc := 142) (i := 3) dX11_add_142 rfl rfl ?_
    refine m_iast (pc := 143) (j := 2) dX11_add_143 hF (fun m20 hF => ?_)
    refine v_aload_n (pc := 144) (i := 0) dX11_add_144 rfl rfl ?_
    refine m_getA (pc := 145) (j := 3) dX11_add_145 flX11_17 rfl (by decide) ?_
    refine v_iload (pc := 148) (i := 4) dX11_add_148 rfl ?_
    refine v_iload_n (pc := 150) (i := 1) dX11_add_150 rfl rfl ?_
    refine m_iast (pc := 151) (j := 3) dX11_add_151 hF (fun m21 hF => ?_)
    refine v_aload_n (pc := 152) (i := 0) dX11_add_152 rfl rfl ?_
    refine m_getA (pc := 153) (j := 13) dX11_add_153 flX11_47 rfl (by decide) ?_
    refine v_iload (pc := 156) (i := 4) dX11_add_156 rfl ?_
    refine v_iconst (pc := 158) (v := (-1 : Int32)) dX11_add_158 rfl ?_
    refine m_iast (pc := 159) (j := 13) dX11_add_159 hF (fun m22 hF => ?_)
    refine v_aload_n (pc := 160) (i := 0) dX11_add_160 rfl rfl ?_
    refine m_getA (pc := 161) (j := 14) dX11_add_161 flX11_50 rfl (by decide) ?_
    refine v_iload (pc := 164) (i := 4) dX11_add_164 rfl ?_
    refine v_iconst (pc := 166) (v := (1 : Int32)) dX11_add_166 rfl ?_
    refine m_iast (pc := 167) (j := 14) dX11_add_167 hF (fun m23 hF => ?_)
    refine v_aload_n (pc := 168) (i := 0) dX11_add_168 rfl rfl ?_
    refine m_getA (pc := 169) (j := 15) dX11_add_169 flX11_53 rfl (by decide) ?_
    refine v_iload (pc := 172) (i := 4) dX11_add_172 rfl ?_
    refine v_iconst (pc := 174) (v := (-1 : Int32)) dX11_add_174 rfl ?_
    refine m_iast (pc := 175) (j := 15) dX11_add_175 hF (fun m24 hF => ?_)
    refine v_aload_n (pc := 176) (i := 0) dX11_add_176 rfl rfl ?_
    refine v_iload (pc := 177) (i := 4) dX11_add_177 rfl ?_
    refine chM_V (pc := 179) gU (as := [si (q8 0 0)]) (st := []) (N := mX11_takeDraft) (k := 0) (n := 0) (k1 := 0) (n1 := 0) dX11_add_179 lkX11_289 caX11_takeDraft cvX11_takeDraft rfl rfl (fun Q1 hq => tX11_takeDraft a0 h (q8 0 0) m24 Q1 hq) ⟨by decide, by decide⟩ (Nat.le_of_ble_eq_true rfl) rfl hF (fun x25 m26 hF => ?_)
    show gV G mX11_add 6 Q 182 [some (sr (some a0)), some (si a1), some (si a2), some (si a3), some (si (q8 0 0)), none] [] (0) (0) (jn a0 h m26)
    refine v_aload_n (pc := 182) (i := 0) dX11_add_182 rfl rfl ?_
    refine m_getA (pc := 183) (j := 5) dX11_add_183 flX11_23 rfl (by decide) ?_
    refine v_iload_n (pc := 186) (i := 1) dX11_add_186 rfl rfl ?_
    refine m_iald (pc := 187) (j := 5) dX11_add_187 hF (fun x27 hF => ?_)
    refine v_istore (pc := 188) (i := 5) [some (sr (some a0)), some (si a1), some (si a2), some (si a3), some (si (q8 0 0)), some (si x27)] dX11_add_188 (by decide) rfl rfl ?_
    refine mg (X := fun q28 => gV G mX11_add 6 Q 228 [some (sr (some a0)), some (si a1), some (si a2), none, some (si (q8 0 0)), none] [] (0) (0) (jn a0 h q28)) hF (fun _ hj36 hF => v_lle [some (sr (some a0)), some (si a1), some (si a2), none, some (si (q8 0 0)), some (si x27)] ⟨rfl, rfl, rfl, rfl, rfl, trivial⟩ (lX11_add_190 a0 h a1 a2 (q8 0 0) hj36 FU (x27, m26) hF)) (fun q28 hF => ?_)
    refine v_aload_n (pc := 228) (i := 0) dX11_add_228 rfl rfl ?_
    refine m_getA (pc := 229) (j := 4) dX11_add_229 flX11_20 rfl (by decide) ?_
    refine v_bipush (pc := 232) (v := (10 : Int32)) dX11_add_232 rfl ?_
    refine v_iload_n (pc := 234) (i := 1) dX11_add_234 rfl rfl ?_
    refine v_imul (pc := 235) dX11_add_235 ?_
    refine v_iload_n (pc := 236) (i := 2) dX11_add_236 rfl rfl ?_
    refine v_iadd (pc := 237) dX11_add_237 ?_
    refine v_iload (pc := 238) (i := 4) dX11_add_238 rfl ?_
    refine m_iast (pc := 240) (j := 4) dX11_add_240 hF (fun m29 hF => ?_)
    refine v_aload_n (pc := 241) (i := 0) dX11_add_241 rfl rfl ?_
    refine m_getA (pc := 242) (j := 5) dX11_add_242 flX11_23 rfl (by decide) ?_
    refine v_iload_n (pc := 245) (i := 1) dX11_add_245 rfl rfl ?_
    refine v_dup2 (pc := 246) dX11_add_246 rfl rfl ?_
    refine m_iald (pc := 247) (j := 5) dX11_add_247 hF (fun x30 hF => ?_)
    refine v_iconst (pc := 248) (v := (1 : Int32)) dX11_add_248 rfl ?_
    refine v_iadd (pc := 249) dX11_add_249 ?_
    refine m_iast (pc := 250) (j := 5) dX11_add_250 hF (fun m31 hF => ?_)
    refine v_aload_n (pc := 251) (i := 0) dX11_add_251 rfl rfl ?_
    refine v_iload (pc := 252) (i := 4) dX11_add_252 rfl ?_
    refine chM_V (pc := 254) gU (as := [si (q8 0 0)]) (st := []) (N := mX11_tellWords) (k := 0) (n := 0) (k1 := 0) (n1 := 0) dX11_add_254 lkX11_292 caX11_tellWords cvX11_tellWords rfl rfl (fun Q1 hq => tX11_tellWords a0 h (q8 0 0) m31 Q1 hq) ⟨by decide, by decide⟩ (Nat.le_of_ble_eq_true rfl) rfl hF (fun x32 m33 hF => ?_)
    show gV G mX11_add 6 Q 257 [some (sr (some a0)), some (si a1), some (si a2), none, some (si (q8 0 0)), none] [] (0) (0) (jn a0 h m33)
    refine v_aload_n (pc := 257) (i := 0) dX11_add_257 rfl rfl ?_
    refine chM_V (pc := 258) gU (as := []) (st := []) (N := mX11_fitOffset) (k := 0) (n := 0) (k1 := 0) (n1 := 0) dX11_add_258 lkX11_295 caX11_fitOffset cvX11_fitOffset rfl rfl (fun Q1 hq => tX11_fitOffset a0 h m33 Q1 hq) ⟨by decide, by decide⟩ (Nat.le_of_ble_eq_true rfl) rfl hF (fun x34 m35 hF => ?_)
    show gV G mX11_add 6 Q 261 [some (sr (some a0)), some (si a1), some (si a2), none, some (si (q8 0 0)), none] [] (0) (0) (jn a0 h m35)
    refine v_iload (pc := 261) (i := 4) dX11_add_261 rfl ?_
    exact v_iret (pc := 263) dX11_add_263 rfl rfl (okr hF fun q => q)
  replace hF := (okB_if hF).2 hc
  refine v_iconst (pc := 110) (v := (0 : Int32)) dX11_add_110 rfl ?_
  exact v_iret (pc := 111) dX11_add_111 rfl rfl (okr hF fun q => q)
/-! BrailleDeskModel.refuge -/
theorem lX11_refuge_3 {G : gG} {Q : hQ} {P : (Int32 ⊕ Unit) → Prop} {k n : Nat} (a0 : Nat) (h : hp) (c1 : Int32) (c3 : Int32) (m : mm) (hJ : ∀ q : Unit, P (.inr q) → gV G mX11_refuge 0 Q 53 [some (sr (some a0)), some (si c1), none, some (si c3), none] [] (k) (n) (jn a0 h m)) (hR : ∀ r : Int32, P (.inl (r)) → (pP gI Q (jn a0 h m)) r) : ∀ (fu : Nat) (a : Int32), okB (itr (fX11_refuge_B3 c1 c3 m) fu a) P → gV G mX11_refuge 0 Q 3 [some (sr (some a0)), some (si c1), none, some (si c3), some (si a)] [] (k) (n) (jn a0 h m) :=
  lpg (X := fun (a : Int32) => gV G mX11_refuge 0 Q 3 [some (sr (some a0)), some (si c1), none, some (si c3), some (si a)] [] (k) (n) (jn a0 h m)) (fun a P2 hL hE hF => by
    delta fX11_refuge_B3 at hF
    refine v_iload (pc := 3) (i := 4) dX11_refuge_3 rfl ?_
    refine v_aload_n (pc := 5) (i := 0) dX11_refuge_5 rfl rfl ?_
    refine m_getA (pc := 6) (j := 5) dX11_refuge_6 flX11_23 rfl (by decide) ?_
    refine v_iload_n (pc := 9) (i := 1) dX11_refuge_9 rfl rfl ?_
    refine m_iald (pc := 10) (j := 5) dX11_refuge_10 hF (fun x1 hF => ?_)
    refine v_icmp_ge (pc := 11) 53 dX11_refuge_11 rfl (fun hc => ?_) (fun hc => ?_)
    · replace hF := (okB_if hF).1 hc
      exact v_lle [some (sr (some a0)), some (si c1), none, some (si c3), none] ⟨rfl, rfl, rfl, trivial⟩ (hJ () (hE _ (okB_some hF)))
    replace hF := (okB_if hF).2 hc
    refine v_aload_n (pc := 14) (i := 0) dX11_refuge_14 rfl rfl ?_
    refine m_getA (pc := 15) (j := 12) dX11_refuge_15 flX11_44 rfl (by decide) ?_
    refine v_aload_n (pc := 18) (i := 0) dX11_refuge_18 rfl rfl ?_
    refine m_getA (pc := 19) (j := 4) dX11_refuge_19 flX11_20 rfl (by decide) ?_
    refine v_bipush (pc := 22) (v := (10 : Int32)) dX11_refuge_22 rfl ?_
    refine v_iload_n (pc := 24) (i := 1) dX11_refuge_24 rfl rfl ?_
    refine v_imul (pc := 25) dX11_refuge_25 ?_
    refine v_iload (pc := 26) (i := 4) dX11_refuge_26 rfl ?_
    refine v_iadd (pc := 28) dX11_refuge_28 ?_
    refine m_iald (pc := 29) (j := 4) dX11_refuge_29 hF (fun x2 hF => ?_)
    refine m_zald (pc := 30) (j := 12) dX11_refuge_30 hF (fun x3 hF => ?_)
    refine v_if_ne (pc := 31) 47 dX11_refuge_31 rfl (fun hc => ?_) (fun hc => ?_)
    · replace hF := (okB_if hF).2 hc
      refine v_iinc (pc := 47) (i := 4) (a + (1 : Int32)) [some (sr (some a0)), some (si c1), none, some (si c3), some (si (a + (1 : Int32)))] dX11_refuge_47 rfl rfl rfl rfl ?_
      refine v_goto (pc := 50) 3 dX11_refuge_50 rfl ?_
      exact v_lle [some (sr (some a0)), some (si c1), none, some (si c3), some (si (a + (1 : Int32)))] ⟨rfl, rfl, rfl, rfl, trivial⟩ (hL (a + (1 : Int32)) (okB_some hF))
    replace hF := (okB_if hF).1 hc
    refine v_aload_n (pc := 34) (i := 0) dX11_refuge_34 rfl rfl ?_
    refine m_getA (pc := 35) (j := 4) dX11_refuge_35 flX11_20 rfl (by decide) ?_
    refine v_bipush (pc := 38) (v := (10 : Int32)) dX11_refuge_38 rfl ?_
    refine v_iload_n (pc := 40) (i := 1) dX11_refuge_40 rfl rfl ?_
    refine v_imul (pc := 41) dX11_refuge_41 ?_
    refine v_iload (pc := 42) (i := 4) dX11_refuge_42 rfl ?_
    refine v_iadd (pc := 44) dX11_refuge_44 ?_
    refine m_iald (pc := 45) (j := 4) dX11_refuge_45 hF (fun x4 hF => ?_)
    exact v_iret (pc := 46) dX11_refuge_46 rfl rfl (hR _ (hE _ (okB_some hF))))
theorem lX11_refuge_56 {G : gG} {Q : hQ} {P : (Int32 ⊕ Unit) → Prop} {k n : Nat} (a0 : Nat) (h : hp) (c1 : Int32) (m : mm) (hJ : ∀ q : Unit, P (.inr q) → gV G mX11_refuge 0 Q 100 [none, some (si c1), none, none, none] [] (k) (n) (jn a0 h m)) (hR : ∀ r : Int32, P (.inl (r)) → (pP gI Q (jn a0 h m)) r) : ∀ (fu : Nat) (a : Int32), okB (itr (fX11_refuge_B56 c1 m) fu a) P → gV G mX11_refuge 0 Q 56 [some (sr (some a0)), some (si c1), none, none, some (si a)] [] (k) (n) (jn a0 h m) :=
  lpg (X := fun (a : Int32) => gV G mX11_refuge 0 Q 56 [some (sr (some a0)), some (si c1), none, none, some (si a)] [] (k) (n) (jn a0 h m)) (fun a P2 hL hE hF => by
    delta fX11_refuge_B56 at hF
    refine v_iload (pc := 56) (i := 4) dX11_refuge_56 rfl ?_
    refine v_if_lt (pc := 58) 100 dX11_refuge_58 rfl (fun hc => ?_) (fun hc => ?_)
    · replace hF := (okB_if hF).1 hc
      exact v_lle [none, some (si c1), none, none, none] ⟨rfl, trivial⟩ (hJ () (hE _ (okB_some hF)))
    replace hF := (okB_if hF).2 hc
    refine v_aload_n (pc := 61) (i := 0) dX11_refuge_61 rfl rfl ?_
    refine m_getA (pc := 62) (j := 12) dX11_refuge_62 flX11_44 rfl (by decide) ?_
    refine v_aload_n (pc := 65) (i := 0) dX11_refuge_65 rfl rfl ?_
    refine m_getA (pc := 66) (j := 4) dX11_refuge_66 flX11_20 rfl (by decide) ?_
    refine v_bipush (pc := 69) (v := (10 : Int32)) dX11_refuge_69 rfl ?_
    refine v_iload_n (pc := 71) (i := 1) dX11_refuge_71 rfl rfl ?_
    refine v_imul (pc := 72) dX11_refuge_72 ?_
    refine v_iload (pc := 73) (i := 4) dX11_refuge_73 rfl ?_
    refine v_iadd (pc := 75) dX11_refuge_75 ?_
    refine m_iald (pc := 76) (j := 4) dX11_refuge_76 hF (fun x1 hF => ?_)
    refine m_zald (pc := 77) (j := 12) dX11_refuge_77 hF (fun x2 hF => ?_)
    refine v_if_ne (pc := 78) 94 dX11_refuge_78 rfl (fun hc => ?_) (fun hc => ?_)
    · replace hF := (okB_if hF).2 hc
      refine v_iinc (pc := 94) (i := 4) (a + (-1 : Int32)) [some (sr (some a0)), some (si c1), none, none, some (si (a + (-1 : Int32)))] dX11_refuge_94 rfl rfl rfl rfl ?_
      refine v_goto (pc := 97) 56 dX11_refuge_97 rfl ?_
      exact v_lle [some (sr (some a0)), some (si c1), none, none, some (si (a + (-1 : Int32)))] ⟨rfl, rfl, rfl, trivial⟩ (hL (a + (-1 : Int32)) (okB_some hF))
    replace hF := (okB_if hF).1 hc
    refine v_aload_n (pc := 81) (i := 0) dX11_refuge_81 rfl rfl ?_
    refine m_getA (pc := 82) (j := 4) dX11_refuge_82 flX11_20 rfl (by decide) ?_
    refine v_bipush (pc := 85) (v := (10 : Int32)) dX11_refuge_85 rfl ?_
    refine v_iload_n (pc := 87) (i := 1) dX11_refuge_87 rfl rfl ?_
    refine v_imul (pc := 88) dX11_refuge_88 ?_
    refine v_iload (pc := 89) (i := 4) dX11_refuge_89 rfl ?_
    refine v_iadd (pc := 91) dX11_refuge_91 ?_
    refine m_iald (pc := 92) (j := 4) dX11_refuge_92 hF (fun x3 hF => ?_)
    exact v_iret (pc := 93) dX11_refuge_93 rfl rfl (hR _ (hE _ (okB_some hF))))
theorem tX11_refuge {G : gG} (a0 : Nat) (h : hp) (a1 : Int32) (a2 : Int32) (a3 : Int32) (m : mm) (Q : hQ) (hF : okB (fX11_refuge a1 a2 a3 m) (pP gI Q (jn a0 h m))) : gS G mX11_refuge 0 0 0 [sr (some a0), si a1, si a2, si a3] (jn a0 h m) Q := by
  delta fX11_refuge at hF
  refine gS_at [some (sr (some a0)), some (si a1), some (si a2), some (si a3), none] pl_X11 rfl (Nat.le_of_ble_eq_true rfl) rfl ?_
  refine v_iload_n (pc := 0) (i := 2) dX11_refuge_0 rfl rfl ?_
  refine v_istore (pc := 1) (i := 4) [some (sr (some a0)), some (si a1), some (si a2), some (si a3), some (si a2)] dX11_refuge_1 (by decide) rfl rfl ?_
  refine mgR (X := fun q1 => gV G mX11_refuge 0 Q 53 [some (sr (some a0)), some (si a1), none, some (si a3), none] [] (0) (0) (jn a0 h m)) hF (fun _ hj4 hr4 hF => v_lle [some (sr (some a0)), some (si a1), none, some (si a3), some (si a2)] ⟨rfl, rfl, rfl, rfl, trivial⟩ (lX11_refuge_3 a0 h a1 a3 m hj4 (fun _ hp => (hr4 _ hp)) FU a2 hF)) (fun q1 hF => ?_)
  refine v_iload_n (pc := 53) (i := 3) dX11_refuge_53 rfl rfl ?_
  refine v_istore (pc := 54) (i := 4) [some (sr (some a0)), some (si a1), none, some (si a3), some (si a3)] dX11_refuge_54 (by decide) rfl rfl ?_
  refine mgR (X := fun q2 => gV G mX11_refuge 0 Q 100 [none, some (si a1), none, none, none] [] (0) (0) (jn a0 h m)) hF (fun _ hj3 hr3 hF => v_lle [some (sr (some a0)), some (si a1), none, none, some (si a3)] ⟨rfl, rfl, rfl, trivial⟩ (lX11_refuge_56 a0 h a1 m hj3 (fun _ hp => (hr3 _ hp)) FU a3 hF)) (fun q2 hF => ?_)
  refine v_iload_n (pc := 100) (i := 1) dX11_refuge_100 rfl rfl ?_
  exact v_iret (pc := 101) dX11_refuge_101 rfl rfl (okr hF fun q => q)
