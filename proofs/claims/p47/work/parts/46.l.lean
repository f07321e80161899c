/-! ===== the law's methods over its arrays: their functions and rows ===== -/
theorem dL_line_0 : decode cL_line 0 = .ok (.bipush 12, 2) := by decide +kernel
theorem dL_line_2 : decode cL_line 2 = .ok (.newarray .int, 2) := by decide +kernel
theorem dL_line_4 : decode cL_line 4 = .ok (.astore 6, 2) := by decide +kernel
theorem dL_line_6 : decode cL_line 6 = .ok (.aload_n 0, 1) := by decide +kernel
theorem dL_line_7 : decode cL_line 7 = .ok (.iconst 1, 1) := by decide +kernel
theorem dL_line_8 : decode cL_line 8 = .ok (.iaload, 1) := by decide +kernel
theorem dL_line_9 : decode cL_line 9 = .ok (.istore 7, 2) := by decide +kernel
theorem dL_line_11 : decode cL_line 11 = .ok (.aload_n 1, 1) := by decide +kernel
theorem dL_line_12 : decode cL_line 12 = .ok (.bipush 6, 2) := by decide +kernel
theorem dL_line_14 : decode cL_line 14 = .ok (.iload 7, 2) := by decide +kernel
theorem dL_line_16 : decode cL_line 16 = .ok (.imul, 1) := by decide +kernel
theorem dL_line_17 : decode cL_line 17 = .ok (.iaload, 1) := by decide +kernel
theorem dL_line_18 : decode cL_line 18 = .ok (.istore 8, 2) := by decide +kernel
theorem dL_line_20 : decode cL_line 20 = .ok (.iconst 0, 1) := by decide +kernel
theorem dL_line_21 : decode cL_line 21 = .ok (.istore 9, 2) := by decide +kernel
theorem dL_line_23 : decode cL_line 23 = .ok (.aload_n 1, 1) := by decide +kernel
theorem dL_line_24 : decode cL_line 24 = .ok (.iload 7, 2) := by decide +kernel
theorem dL_line_26 : decode cL_line 26 = .ok (.invokestatic 30, 3) := by decide +kernel
theorem dL_line_29 : decode cL_line 29 = .ok (.ifCond .le 40, 3) := by decide +kernel
theorem dL_line_32 : decode cL_line 32 = .ok (.iload 8, 2) := by decide +kernel
theorem dL_line_34 : decode cL_line 34 = .ok (.iconst 1, 1) := by decide +kernel
theorem dL_line_35 : decode cL_line 35 = .ok (.if_icmp .eq 34, 3) := by decide +kernel
theorem dL_line_38 : decode cL_line 38 = .ok (.aload 5, 2) := by decide +kernel
theorem dL_line_40 : decode cL_line 40 = .ok (.iconst 0, 1) := by decide +kernel
theorem dL_line_41 : decode cL_line 41 = .ok (.iload 8, 2) := by decide +kernel
theorem dL_line_43 : decode cL_line 43 = .ok (.invokestatic 40, 3) := by decide +kernel
theorem dL_line_46 : decode cL_line 46 = .ok (.istore 9, 2) := by decide +kernel
theorem dL_line_48 : decode cL_line 48 = .ok (.aload 5, 2) := by decide +kernel
theorem dL_line_50 : decode cL_line 50 = .ok (.iconst 0, 1) := by decide +kernel
theorem dL_line_51 : decode cL_line 51 = .ok (.aload 5, 2) := by decide +kernel
theorem dL_line_53 : decode cL_line 53 = .ok (.iconst 0, 1) := by decide +kernel
theorem dL_line_54 : decode cL_line 54 = .ok (.iaload, 1) := by decide +kernel
theorem dL_line_55 : decode cL_line 55 = .ok (.bipush 97, 2) := by decide +kernel
theorem dL_line_57 : decode cL_line 57 = .ok (.isub, 1) := by decide +kernel
theorem dL_line_58 : decode cL_line 58 = .ok (.invokestatic 59, 3) := by decide +kernel
theorem dL_line_61 : decode cL_line 61 = .ok (.sipush 192, 3) := by decide +kernel
theorem dL_line_64 : decode cL_line 64 = .ok (.iadd, 1) := by decide +kernel
theorem dL_line_65 : decode cL_line 65 = .ok (.iastore, 1) := by decide +kernel
theorem dL_line_66 : decode cL_line 66 = .ok (.iconst 1, 1) := by decide +kernel
theorem dL_line_67 : decode cL_line 67 = .ok (.istore 9, 2) := by decide +kernel
theorem dL_line_69 : decode cL_line 69 = .ok (.iconst 0, 1) := by decide +kernel
theorem dL_line_70 : decode cL_line 70 = .ok (.istore 10, 2) := by decide +kernel
theorem dL_line_72 : decode cL_line 72 = .ok (.iload 10, 2) := by decide +kernel
theorem dL_line_74 : decode cL_line 74 = .ok (.aload_n 2, 1) := by decide +kernel
theorem dL_line_75 : decode cL_line 75 = .ok (.iload 7, 2) := by decide +kernel
theorem dL_line_77 : decode cL_line 77 = .ok (.laload, 1) := by decide +kernel
theorem dL_line_78 : decode cL_line 78 = .ok (.invokestatic 34, 3) := by decide +kernel
theorem dL_line_81 : decode cL_line 81 = .ok (.if_icmp .ge 29, 3) := by decide +kernel
theorem dL_line_84 : decode cL_line 84 = .ok (.aload 6, 2) := by decide +kernel
theorem dL_line_86 : decode cL_line 86 = .ok (.iload 10, 2) := by decide +kernel
theorem dL_line_88 : decode cL_line 88 = .ok (.aload_n 2, 1) := by decide +kernel
theorem dL_line_89 : decode cL_line 89 = .ok (.iload 7, 2) := by decide +kernel
theorem dL_line_91 : decode cL_line 91 = .ok (.laload, 1) := by decide +kernel
theorem dL_line_92 : decode cL_line 92 = .ok (.bipush 20, 2) := by decide +kernel
theorem dL_line_94 : decode cL_line 94 = .ok (.iload 10, 2) := by decide +kernel
theorem dL_line_96 : decode cL_line 96 = .ok (.imul, 1) := by decide +kernel
theorem dL_line_97 : decode cL_line 97 = .ok (.lshr, 1) := by decide +kernel
theorem dL_line_98 : decode cL_line 98 = .ok (.ldc2_w 38, 3) := by decide +kernel
theorem dL_line_101 : decode cL_line 101 = .ok (.land, 1) := by decide +kernel
theorem dL_line_102 : decode cL_line 102 = .ok (.l2i, 1) := by decide +kernel
theorem dL_line_103 : decode cL_line 103 = .ok (.iastore, 1) := by decide +kernel
theorem dL_line_104 : decode cL_line 104 = .ok (.iinc 10 1, 3) := by decide +kernel
theorem dL_line_107 : decode cL_line 107 = .ok (.goto (-35), 3) := by decide +kernel
theorem dL_line_110 : decode cL_line 110 = .ok (.aload 6, 2) := by decide +kernel
theorem dL_line_112 : decode cL_line 112 = .ok (.aload_n 2, 1) := by decide +kernel
theorem dL_line_113 : decode cL_line 113 = .ok (.iload 7, 2) := by decide +kernel
theorem dL_line_115 : decode cL_line 115 = .ok (.laload, 1) := by decide +kernel
theorem dL_line_116 : decode cL_line 116 = .ok (.invokestatic 34, 3) := by decide +kernel
theorem dL_line_119 : decode cL_line 119 = .ok (.aload 5, 2) := by decide +kernel
theorem dL_line_121 : decode cL_line 121 = .ok (.iload 9, 2) := by decide +kernel
theorem dL_line_123 : decode cL_line 123 = .ok (.invokestatic 63, 3) := by decide +kernel
theorem dL_line_126 : decode cL_line 126 = .ok (.istore 9, 2) := by decide +kernel
theorem dL_line_128 : decode cL_line 128 = .ok (.iload 8, 2) := by decide +kernel
theorem dL_line_130 : decode cL_line 130 = .ok (.iconst 3, 1) := by decide +kernel
theorem dL_line_131 : decode cL_line 131 = .ok (.if_icmp .ne 41, 3) := by decide +kernel
theorem dL_line_134 : decode cL_line 134 = .ok (.aload 5, 2) := by decide +kernel
theorem dL_line_136 : decode cL_line 136 = .ok (.iload 9, 2) := by decide +kernel
theorem dL_line_138 : decode cL_line 138 = .ok (.iconst 0, 1) := by decide +kernel
theorem dL_line_139 : decode cL_line 139 = .ok (.iastore, 1) := by decide +kernel
theorem dL_line_140 : decode cL_line 140 = .ok (.aload 5, 2) := by decide +kernel
theorem dL_line_142 : decode cL_line 142 = .ok (.iload 9, 2) := by decide +kernel
theorem dL_line_144 : decode cL_line 144 = .ok (.iconst 1, 1) := by decide +kernel
theorem dL_line_145 : decode cL_line 145 = .ok (.iadd, 1) := by decide +kernel
theorem dL_line_146 : decode cL_line 146 = .ok (.aload_n 1, 1) := by decide +kernel
theorem dL_line_147 : decode cL_line 147 = .ok (.bipush 6, 2) := by decide +kernel
theorem dL_line_149 : decode cL_line 149 = .ok (.iload 7, 2) := by decide +kernel
theorem dL_line_151 : decode cL_line 151 = .ok (.imul, 1) := by decide +kernel
theorem dL_line_152 : decode cL_line 152 = .ok (.iconst 3, 1) := by decide +kernel
theorem dL_line_153 : decode cL_line 153 = .ok (.iadd, 1) := by decide +kernel
theorem dL_line_154 : decode cL_line 154 = .ok (.iaload, 1) := by decide +kernel
theorem dL_line_155 : decode cL_line 155 = .ok (.iconst 4, 1) := by decide +kernel
theorem dL_line_156 : decode cL_line 156 = .ok (.iand, 1) := by decide +kernel
theorem dL_line_157 : decode cL_line 157 = .ok (.iconst 4, 1) := by decide +kernel
theorem dL_line_158 : decode cL_line 158 = .ok (.if_icmp .ne 8, 3) := by decide +kernel
theorem dL_line_161 : decode cL_line 161 = .ok (.bipush 63, 2) := by decide +kernel
theorem dL_line_163 : decode cL_line 163 = .ok (.goto 5, 3) := by decide +kernel
theorem dL_line_166 : decode cL_line 166 = .ok (.bipush 36, 2) := by decide +kernel
theorem dL_line_168 : decode cL_line 168 = .ok (.iastore, 1) := by decide +kernel
theorem dL_line_169 : decode cL_line 169 = .ok (.iinc 9 2, 3) := by decide +kernel
theorem dL_line_172 : decode cL_line 172 = .ok (.aload 4, 2) := by decide +kernel
theorem dL_line_174 : decode cL_line 174 = .ok (.iload 7, 2) := by decide +kernel
theorem dL_line_176 : decode cL_line 176 = .ok (.iaload, 1) := by decide +kernel
theorem dL_line_177 : decode cL_line 177 = .ok (.ifCond .le 60, 3) := by decide +kernel
theorem dL_line_180 : decode cL_line 180 = .ok (.aload 5, 2) := by decide +kernel
theorem dL_line_182 : decode cL_line 182 = .ok (.iload 9, 2) := by decide +kernel
theorem dL_line_184 : decode cL_line 184 = .ok (.iconst 0, 1) := by decide +kernel
theorem dL_line_185 : decode cL_line 185 = .ok (.iastore, 1) := by decide +kernel
theorem dL_line_186 : decode cL_line 186 = .ok (.iinc 9 1, 3) := by decide +kernel
theorem dL_line_189 : decode cL_line 189 = .ok (.iconst 0, 1) := by decide +kernel
theorem dL_line_190 : decode cL_line 190 = .ok (.istore 10, 2) := by decide +kernel
theorem dL_line_192 : decode cL_line 192 = .ok (.iload 10, 2) := by decide +kernel
theorem dL_line_194 : decode cL_line 194 = .ok (.aload 4, 2) := by decide +kernel
theorem dL_line_196 : decode cL_line 196 = .ok (.iload 7, 2) := by decide +kernel
theorem dL_line_198 : decode cL_line 198 = .ok (.iaload, 1) := by decide +kernel
theorem dL_line_199 : decode cL_line 199 = .ok (.if_icmp .ge 22, 3) := by decide +kernel
theorem dL_line_202 : decode cL_line 202 = .ok (.aload 6, 2) := by decide +kernel
theorem dL_line_204 : decode cL_line 204 = .ok (.iload 10, 2) := by decide +kernel
theorem dL_line_206 : decode cL_line 206 = .ok (.aload_n 3, 1) := by decide +kernel
theorem dL_line_207 : decode cL_line 207 = .ok (.iload 7, 2) := by decide +kernel
theorem dL_line_209 : decode cL_line 209 = .ok (.iload 10, 2) := by decide +kernel
theorem dL_line_211 : decode cL_line 211 = .ok (.invokestatic 44, 3) := by decide +kernel
theorem dL_line_214 : decode cL_line 214 = .ok (.iastore, 1) := by decide +kernel
theorem dL_line_215 : decode cL_line 215 = .ok (.iinc 10 1, 3) := by decide +kernel
theorem dL_line_218 : decode cL_line 218 = .ok (.goto (-26), 3) := by decide +kernel
theorem dL_line_221 : decode cL_line 221 = .ok (.aload 6, 2) := by decide +kernel
theorem dL_line_223 : decode cL_line 223 = .ok (.aload 4, 2) := by decide +kernel
theorem dL_line_225 : decode cL_line 225 = .ok (.iload 7, 2) := by decide +kernel
theorem dL_line_227 : decode cL_line 227 = .ok (.iaload, 1) := by decide +kernel
theorem dL_line_228 : decode cL_line 228 = .ok (.aload 5, 2) := by decide +kernel
theorem dL_line_230 : decode cL_line 230 = .ok (.iload 9, 2) := by decide +kernel
theorem dL_line_232 : decode cL_line 232 = .ok (.invokestatic 63, 3) := by decide +kernel
theorem dL_line_235 : decode cL_line 235 = .ok (.istore 9, 2) := by decide +kernel
theorem dL_line_237 : decode cL_line 237 = .ok (.aload_n 0, 1) := by decide +kernel
theorem dL_line_238 : decode cL_line 238 = .ok (.iconst 4, 1) := by decide +kernel
theorem dL_line_239 : decode cL_line 239 = .ok (.iaload, 1) := by decide +kernel
theorem dL_line_240 : decode cL_line 240 = .ok (.iconst 1, 1) := by decide +kernel
theorem dL_line_241 : decode cL_line 241 = .ok (.if_icmp .ne 14, 3) := by decide +kernel
theorem dL_line_244 : decode cL_line 244 = .ok (.aload 5, 2) := by decide +kernel
theorem dL_line_246 : decode cL_line 246 = .ok (.iload 9, 2) := by decide +kernel
theorem dL_line_248 : decode cL_line 248 = .ok (.sipush 192, 3) := by decide +kernel
theorem dL_line_251 : decode cL_line 251 = .ok (.iastore, 1) := by decide +kernel
theorem dL_line_252 : decode cL_line 252 = .ok (.iinc 9 1, 3) := by decide +kernel
theorem dL_line_255 : decode cL_line 255 = .ok (.iload 9, 2) := by decide +kernel
theorem dL_line_257 : decode cL_line 257 = .ok (.ireturn, 1) := by decide +kernel
theorem dL_goes_0 : decode cL_goes 0 = .ok (.iload_n 1, 1) := by decide +kernel
theorem dL_goes_1 : decode cL_goes 1 = .ok (.ifCond .lt 28, 3) := by decide +kernel
theorem dL_goes_4 : decode cL_goes 4 = .ok (.aload_n 0, 1) := by decide +kernel
theorem dL_goes_5 : decode cL_goes 5 = .ok (.iconst 4, 1) := by decide +kernel
theorem dL_goes_6 : decode cL_goes 6 = .ok (.iconst 0, 1) := by decide +kernel
theorem dL_goes_7 : decode cL_goes 7 = .ok (.iastore, 1) := by decide +kernel
theorem dL_goes_8 : decode cL_goes 8 = .ok (.aload_n 0, 1) := by decide +kernel
theorem dL_goes_9 : decode cL_goes 9 = .ok (.iconst 3, 1) := by decide +kernel
theorem dL_goes_10 : decode cL_goes 10 = .ok (.iload_n 1, 1) := by decide +kernel
theorem dL_goes_11 : decode cL_goes 11 = .ok (.aload_n 0, 1) := by decide +kernel
theorem dL_goes_12 : decode cL_goes 12 = .ok (.iconst 1, 1) := by decide +kernel
theorem dL_goes_13 : decode cL_goes 13 = .ok (.iaload, 1) := by decide +kernel
theorem dL_goes_14 : decode cL_goes 14 = .ok (.if_icmp .ne 9, 3) := by decide +kernel
theorem dL_goes_17 : decode cL_goes 17 = .ok (.aload_n 0, 1) := by decide +kernel
theorem dL_goes_18 : decode cL_goes 18 = .ok (.iconst 3, 1) := by decide +kernel
theorem dL_goes_19 : decode cL_goes 19 = .ok (.iaload, 1) := by decide +kernel
theorem dL_goes_20 : decode cL_goes 20 = .ok (.goto 4, 3) := by decide +kernel
theorem dL_goes_23 : decode cL_goes 23 = .ok (.iconst 0, 1) := by decide +kernel
theorem dL_goes_24 : decode cL_goes 24 = .ok (.iastore, 1) := by decide +kernel
theorem dL_goes_25 : decode cL_goes 25 = .ok (.aload_n 0, 1) := by decide +kernel
theorem dL_goes_26 : decode cL_goes 26 = .ok (.iconst 1, 1) := by decide +kernel
theorem dL_goes_27 : decode cL_goes 27 = .ok (.iload_n 1, 1) := by decide +kernel
theorem dL_goes_28 : decode cL_goes 28 = .ok (.iastore, 1) := by decide +kernel
theorem dL_goes_29 : decode cL_goes 29 = .ok (.return_, 1) := by decide +kernel
theorem dL_canFocus_0 : decode cL_canFocus 0 = .ok (.aload_n 0, 1) := by decide +kernel
theorem dL_canFocus_1 : decode cL_canFocus 1 = .ok (.bipush 6, 2) := by decide +kernel
theorem dL_canFocus_3 : decode cL_canFocus 3 = .ok (.iload_n 1, 1) := by decide +kernel
theorem dL_canFocus_4 : decode cL_canFocus 4 = .ok (.imul, 1) := by decide +kernel
theorem dL_canFocus_5 : decode cL_canFocus 5 = .ok (.iaload, 1) := by decide +kernel
theorem dL_canFocus_6 : decode cL_canFocus 6 = .ok (.iconst 1, 1) := by decide +kernel
theorem dL_canFocus_7 : decode cL_canFocus 7 = .ok (.if_icmp .le 17, 3) := by decide +kernel
theorem dL_canFocus_10 : decode cL_canFocus 10 = .ok (.aload_n 0, 1) := by decide +kernel
theorem dL_canFocus_11 : decode cL_canFocus 11 = .ok (.bipush 6, 2) := by decide +kernel
theorem dL_canFocus_13 : decode cL_canFocus 13 = .ok (.iload_n 1, 1) := by decide +kernel
theorem dL_canFocus_14 : decode cL_canFocus 14 = .ok (.imul, 1) := by decide +kernel
theorem dL_canFocus_15 : decode cL_canFocus 15 = .ok (.iaload, 1) := by decide +kernel
theorem dL_canFocus_16 : decode cL_canFocus 16 = .ok (.iconst 5, 1) := by decide +kernel
theorem dL_canFocus_17 : decode cL_canFocus 17 = .ok (.if_icmp .ge 7, 3) := by decide +kernel
theorem dL_canFocus_20 : decode cL_canFocus 20 = .ok (.iconst 1, 1) := by decide +kernel
theorem dL_canFocus_21 : decode cL_canFocus 21 = .ok (.goto 4, 3) := by decide +kernel
theorem dL_canFocus_24 : decode cL_canFocus 24 = .ok (.iconst 0, 1) := by decide +kernel
theorem dL_canFocus_25 : decode cL_canFocus 25 = .ok (.ireturn, 1) := by decide +kernel
theorem dL_before_0 : decode cL_before 0 = .ok (.iconst 0, 1) := by decide +kernel
theorem dL_before_1 : decode cL_before 1 = .ok (.istore_n 3, 1) := by decide +kernel
theorem dL_before_2 : decode cL_before 2 = .ok (.iconst (-1), 1) := by decide +kernel
theorem dL_before_3 : decode cL_before 3 = .ok (.istore 4, 2) := by decide +kernel
theorem dL_before_5 : decode cL_before 5 = .ok (.iload_n 3, 1) := by decide +kernel
theorem dL_before_6 : decode cL_before 6 = .ok (.iload_n 2, 1) := by decide +kernel
theorem dL_before_7 : decode cL_before 7 = .ok (.if_icmp .eq 16, 3) := by decide +kernel
theorem dL_before_10 : decode cL_before 10 = .ok (.iload_n 3, 1) := by decide +kernel
theorem dL_before_11 : decode cL_before 11 = .ok (.istore 4, 2) := by decide +kernel
theorem dL_before_13 : decode cL_before 13 = .ok (.aload_n 0, 1) := by decide +kernel
theorem dL_before_14 : decode cL_before 14 = .ok (.aload_n 1, 1) := by decide +kernel
theorem dL_before_15 : decode cL_before 15 = .ok (.iload_n 3, 1) := by decide +kernel
theorem dL_before_16 : decode cL_before 16 = .ok (.invokestatic 67, 3) := by decide +kernel
theorem dL_before_19 : decode cL_before 19 = .ok (.istore_n 3, 1) := by decide +kernel
theorem dL_before_20 : decode cL_before 20 = .ok (.goto (-15), 3) := by decide +kernel
theorem dL_before_23 : decode cL_before 23 = .ok (.iload 4, 2) := by decide +kernel
theorem dL_before_25 : decode cL_before 25 = .ok (.ireturn, 1) := by decide +kernel
abbrev mL_line : gM := (yL_line, cL_line, 11, (Option.some FieldType.int), [])
theorem caL_line : cal mL_line 6 := ⟨xw 885 (by decide +kernel) rfl, xw 28 (by decide +kernel) rfl, by decide, by decide +kernel⟩
theorem csL_line : Cond.static yL_line ∈ XW := xw 884 (by decide +kernel) rfl
abbrev mL_goes : gM := (yL_goes, cL_goes, 2, (Option.none : Option FieldType), [])
theorem caL_goes : cal mL_goes 2 := ⟨xw 926 (by decide +kernel) rfl, xw 28 (by decide +kernel) rfl, by decide, by decide +kernel⟩
theorem csL_goes : Cond.static yL_goes ∈ XW := xw 925 (by decide +kernel) rfl
abbrev mL_canFocus : gM := (yL_canFocus, cL_canFocus, 2, (Option.some FieldType.boolean), [])
theorem caL_canFocus : cal mL_canFocus 2 := ⟨xw 938 (by decide +kernel) rfl, xw 28 (by decide +kernel) rfl, by decide, by decide +kernel⟩
theorem csL_canFocus : Cond.static yL_canFocus ∈ XW := xw 937 (by decide +kernel) rfl
abbrev mL_before : gM := (yL_before, cL_before, 5, (Option.some FieldType.int), [])
theorem caL_before : cal mL_before 3 := ⟨xw 917 (by decide +kernel) rfl, xw 28 (by decide +kernel) rfl, by decide, by decide +kernel⟩
theorem csL_before : Cond.static yL_before ∈ XW := xw 916 (by decide +kernel) rfl
theorem lkL_63 : Cond.methodLink RL 63 yL_writes ∈ XW := xw 896 (by decide +kernel) rfl
theorem lkL_67 : Cond.methodLink RL 67 yL_next ∈ XW := xw 918 (by decide +kernel) rfl
/-! BrailleDeskLaw.line -/
theorem lL_line_72 {G : gG} {Q : hQ} {P : hp → Prop} {k n : Nat} (c0 : (Option Nat)) (c1 : (Option Nat)) (c2 : (Option Nat)) (c3 : (Option Nat)) (c4 : (Option Nat)) (c5 : (Option Nat)) (c6 : (Option Nat)) (c7 : Int32) (c8 : Int32) (c9 : Int32) (hJ : ∀ q : hp, P q → gV G mL_line 2 Q 110 [some (sr c0), some (sr c1), some (sr c2), some (sr c3), some (sr c4), some (sr c5), some (sr c6), some (si c7), some (si c8), some (si c9), none] [] (k) (n) q) : ∀ (fu : Nat) (a : (Int32 × hp)), okB (itr (fL_line_B72 c0 c1 c2 c3 c4 c5 c6 c7 c8 c9) fu a) P → gV G mL_line 2 Q 72 [some (sr c0), some (sr c1), some (sr c2), some (sr c3), some (sr c4), some (sr c5), some (sr c6), some (si c7), some (si c8), some (si c9), some (si a.1)] [] (k) (n) a.2 :=
  lpg (X := fun (a : (Int32 × hp)) => gV G mL_line 2 Q 72 [some (sr c0), some (sr c1), some (sr c2), some (sr c3), some (sr c4), some (sr c5), some (sr c6), some (si c7), some (si c8), some (si c9), some (si a.1)] [] (k) (n) a.2) (fun a P2 hL hE hF => by
    delta fL_line_B72 at hF
    refine v_iload (pc := 72) (i := 10) dL_line_72 rfl ?_
    refine v_aload_n (pc := 74) (i := 2) dL_line_74 rfl rfl ?_
    refine v_iload (pc := 75) (i := 7) dL_line_75 rfl ?_
    refine s_lald (pc := 77) dL_line_77 hF (fun x1 hF => ?_)
    refine cp_S (pc := 78) gI (as := [sl x1]) (st := [si a.1]) (N := mL_nameMany) (k := k) (n := n) (k1 := 0) (n1 := 0) dL_line_78 lkL_34 caL_nameMany csL_nameMany rfl (fun Q1 hq => tL_nameMany x1 a.2 Q1 hq) ⟨by decide, by decide⟩ (Nat.le_of_ble_eq_true rfl) rfl hF (fun x2 hF => ?_)
    show gV G mL_line 2 Q 81 [some (sr c0), some (sr c1), some (sr c2), some (sr c3), some (sr c4), some (sr c5), some (sr c6), some (si c7), some (si c8), some (si c9), some (si a.1)] [si x2, si a.1] (k) (n) a.2
    refine v_icmp_ge (pc := 81) 110 dL_line_81 rfl (fun hc => ?_) (fun hc => ?_)
    · replace hF := (okB_if hF).1 hc
      exact v_lle [some (sr c0), some (sr c1), some (sr c2), some (sr c3), some (sr c4), some (sr c5), some (sr c6), some (si c7), some (si c8), some (si c9), none] ⟨rfl, rfl, rfl, rfl, rfl, rfl, rfl, rfl, rfl, rfl, trivial⟩ (hJ a.2 (hE _ (okB_some hF)))
    replace hF := (okB_if hF).2 hc
    refine v_aload (pc := 84) (i := 6) dL_line_84 rfl ?_
    refine v_iload (pc := 86) (i := 10) dL_line_86 rfl ?_
    refine v_aload_n (pc := 88) (i := 2) dL_line_88 rfl rfl ?_
    refine v_iload (pc := 89) (i := 7) dL_line_89 rfl ?_
    refine s_lald (pc := 91) dL_line_91 hF (fun x3 hF => ?_)
    refine v_bipush (pc := 92) (v := (20 : Int32)) dL_line_92 rfl ?_
    refine v_iload (pc := 94) (i := 10) dL_line_94 rfl ?_
    refine v_imul (pc := 96) dL_line_96 ?_
    refine v_lshr (pc := 97) dL_line_97 ?_
    refine v_ldc2 (pc := 98) (v := (1048575 : Int64)) dL_line_98 clL_38 ?_
    refine v_land (pc := 101) dL_line_101 ?_
    refine v_l2i (pc := 102) dL_line_102 ?_
    refine s_iast (pc := 103) dL_line_103 hF (fun h4 hF => ?_)
    refine v_iinc (pc := 104) (i := 10) (a.1 + (1 : Int32)) [some (sr c0), some (sr c1), some (sr c2), some (sr c3), some (sr c4), some (sr c5), some (sr c6), some (si c7), some (si c8), some (si c9), some (si (a.1 + (1 : Int32)))] dL_line_104 rfl rfl rfl rfl ?_
    refine v_goto (pc := 107) 72 dL_line_107 rfl ?_
    exact v_lle [some (sr c0), some (sr c1), some (sr c2), some (sr c3), some (sr c4), some (sr c5), some (sr c6), some (si c7), some (si c8), some (si c9), some (si (a.1 + (1 : Int32)))] ⟨rfl, rfl, rfl, rfl, rfl, rfl, rfl, rfl, rfl, rfl, rfl, trivial⟩ (hL (a.1 + (1 : Int32), h4) (okB_some hF)))
theorem lL_line_192 {G : gG} {Q : hQ} {P : hp → Prop} {k n : Nat} (c0 : (Option Nat)) (c3 : (Option Nat)) (c4 : (Option Nat)) (c5 : (Option Nat)) (c6 : (Option Nat)) (c7 : Int32) (c9 : Int32) (hJ : ∀ q : hp, P q → gV G mL_line 2 Q 221 [some (sr c0), none, none, none, some (sr c4), some (sr c5), some (sr c6), some (si c7), none, some (si c9), none] [] (k) (n) q) : ∀ (fu : Nat) (a : (Int32 × hp)), okB (itr (fL_line_B192 c0 c3 c4 c5 c6 c7 c9) fu a) P → gV G mL_line 2 Q 192 [some (sr c0), none, none, some (sr c3), some (sr c4), some (sr c5), some (sr c6), some (si c7), none, some (si c9), some (si a.1)] [] (k) (n) a.2 :=
  lpg (X := fun (a : (Int32 × hp)) => gV G mL_line 2 Q 192 [some (sr c0), none, none, some (sr c3), some (sr c4), some (sr c5), some (sr c6), some (si c7), none, some (si c9), some (si a.1)] [] (k) (n) a.2) (fun a P2 hL hE hF => by
    delta fL_line_B192 at hF
    refine v_iload (pc := 192) (i := 10) dL_line_192 rfl ?_
    refine v_aload (pc := 194) (i := 4) dL_line_194 rfl ?_
    refine v_iload (pc := 196) (i := 7) dL_line_196 rfl ?_
    refine s_iald (pc := 198) dL_line_198 hF (fun x1 hF => ?_)
    refine v_icmp_ge (pc := 199) 221 dL_line_199 rfl (fun hc => ?_) (fun hc => ?_)
    · replace hF := (okB_if hF).1 hc
      exact v_lle [some (sr c0), none, none, none, some (sr c4), some (sr c5), some (sr c6), some (si c7), none, some (si c9), none] ⟨rfl, rfl, rfl, rfl, rfl, rfl, trivial⟩ (hJ a.2 (hE _ (okB_some hF)))
    replace hF := (okB_if hF).2 hc
    refine v_aload (pc := 202) (i := 6) dL_line_202 rfl ?_
    refine v_iload (pc := 204) (i := 10) dL_line_204 rfl ?_
    refine v_aload_n (pc := 206) (i := 3) dL_line_206 rfl rfl ?_
    refine v_iload (pc := 207) (i := 7) dL_line_207 rfl ?_
    refine v_iload (pc := 209) (i := 10) dL_line_209 rfl ?_
    refine cp_S (pc := 211) gI (as := [sr c3, si c7, si a.1]) (st := [si a.1, sr c6]) (N := mL_typed) (k := k) (n := n) (k1 := 0) (n1 := 0) dL_line_211 lkL_44 caL_typed csL_typed rfl (fun Q1 hq => tL_typed c3 c7 a.1 a.2 Q1 hq) ⟨by decide, by decide⟩ (Nat.le_of_ble_eq_true rfl) rfl hF (fun x2 hF => ?_)
    show gV G mL_line 2 Q 214 [some (sr c0), none, none, some (sr c3), some (sr c4), some (sr c5), some (sr c6), some (si c7), none, some (si c9), some (si a.1)] [si x2, si a.1, sr c6] (k) (n) a.2
    refine s_iast (pc := 214) dL_line_214 hF (fun h3 hF => ?_)
    refine v_iinc (pc := 215) (i := 10) (a.1 + (1 : Int32)) [some (sr c0), none, none, some (sr c3), some (sr c4), some (sr c5), some (sr c6), some (si c7), none, some (si c9), some (si (a.1 + (1 : Int32)))] dL_line_215 rfl rfl rfl rfl ?_
    refine v_goto (pc := 218) 192 dL_line_218 rfl ?_
    exact v_lle [some (sr c0), none, none, some (sr c3), some (sr c4), some (sr c5), some (sr c6), some (si c7), none, some (si c9), some (si (a.1 + (1 : Int32)))] ⟨rfl, rfl, rfl, rfl, rfl, rfl, rfl, rfl, trivial⟩ (hL (a.1 + (1 : Int32), h3) (okB_some hF)))
theorem tL_line {G : gG} (a0 : (Option Nat)) (a1 : (Option Nat)) (a2 : (Option Nat)) (a3 : (Option Nat)) (a4 : (Option Nat)) (a5 : (Option Nat)) (h : hp) (Q : hQ) (hF : okB (fL_line a0 a1 a2 a3 a4 a5 h) (pH gI Q)) : gS G mL_line 2 1 12 [sr a0, sr a1, sr a2, sr a3, sr a4, sr a5] h Q := by
  delta fL_line at hF
  refine gS_at [some (sr a0), some (sr a1), some (sr a2), some (sr a3), some (sr a4), some (sr a5), none, none, none, none, none] pl_L rfl (Nat.le_of_ble_eq_true rfl) rfl ?_
  refine v_bipush (pc := 0) (v := (12 : Int32)) dL_line_0 rfl ?_
  refine v_newI (pc := 2) (k := 0) (n := 0) (len := 12) dL_line_2 rfl (by decide) ?_
  refine v_astore (pc := 4) (i := 6) [some (sr a0), some (sr a1), some (sr a2), some (sr a3), some (sr a4), some (sr a5), some (sr (some (hN h))), none, none, none, none] dL_line_4 (by decide) rfl rfl ?_
  refine v_aload_n (pc := 6) (i := 0) dL_line_6 rfl rfl ?_
  refine v_iconst (pc := 7) (v := (1 : Int32)) dL_line_7 rfl ?_
  refine s_iald (pc := 8) dL_line_8 hF (fun x1 hF => ?_)
  refine v_istore (pc := 9) (i := 7) [some (sr a0), some (sr a1), some (sr a2), some (sr a3), some (sr a4), some (sr a5), some (sr (some (hN h))), some (si x1), none, none, none] dL_line_9 (by decide) rfl rfl ?_
  refine v_aload_n (pc := 11) (i := 1) dL_line_11 rfl rfl ?_
  refine v_bipush (pc := 12) (v := (6 : Int32)) dL_line_12 rfl ?_
  refine v_iload (pc := 14) (i := 7) dL_line_14 rfl ?_
  refine v_imul (pc := 16) dL_line_16 ?_
  refine s_iald (pc := 17) dL_line_17 hF (fun x2 hF => ?_)
  refine v_istore (pc := 18) (i := 8) [some (sr a0), some (sr a1), some (sr a2), some (sr a3), some (sr a4), some (sr a5), some (sr (some (hN h))), some (si x1), some (si x2), none, none] dL_line_18 (by decide) rfl rfl ?_
  refine v_iconst (pc := 20) (v := (0 : Int32)) dL_line_20 rfl ?_
  refine v_istore (pc := 21) (i := 9) [some (sr a0), some (sr a1), some (sr a2), some (sr a3), some (sr a4), some (sr a5), some (sr (some (hN h))), some (si x1), some (si x2), some (si (0 : Int32)), none] dL_line_21 (by decide) rfl rfl ?_
  refine v_aload_n (pc := 23) (i := 1) dL_line_23 rfl rfl ?_
  refine v_iload (pc := 24) (i := 7) dL_line_24 rfl ?_
  refine cp_S (pc := 26) gI (as := [sr a1, si x1]) (st := []) (N := mL_level) (k := 0) (n := 0) (k1 := 0) (n1 := 0) dL_line_26 lkL_30 caL_level csL_level rfl (fun Q1 hq => tL_level a1 x1 (wN h (20, 12)) Q1 hq) ⟨by decide, by decide⟩ (Nat.le_of_ble_eq_true rfl) rfl hF (fun x3 hF => ?_)
  show gV G mL_line 2 Q 29 [some (sr a0), some (sr a1), some (sr a2), some (sr a3), some (sr a4), some (sr a5), some (sr (some (hN h))), some (si x1), some (si x2), some (si (0 : Int32)), none] [si x3] (0) (0) (wN h (20, 12))
  refine mg (X := fun q4 => gV G mL_line 2 Q 69 [some (sr a0), some (sr a1), some (sr a2), some (sr a3), some (sr a4), some (sr a5), some (sr (some (hN h))), some (si x1), some (si x2), some (si q4.1), none] [] (0) (0) q4.2) hF (fun _ hj5 hF => ?_) (fun q4 hF => ?_)
  · refine v_if_le (pc := 29) 69 dL_line_29 rfl (fun hc => ?_) (fun hc => ?_)
    · replace hF := (okB_if hF).1 hc
      exact v_lle [some (sr a0), some (sr a1), some (sr a2), some (sr a3), some (sr a4), some (sr a5), some (sr (some (hN h))), some (si x1), some (si x2), some (si (0 : Int32)), none] ⟨rfl, rfl, rfl, rfl, rfl, rfl, rfl, rfl, rfl, rfl, trivial⟩ (hj5 ((0 : Int32), wN h (20, 12)) (okB_some hF))
    replace hF := (okB_if hF).2 hc
    refine v_iload (pc := 32) (i := 8) dL_line_32 rfl ?_
    refine v_iconst (pc := 34) (v := (1 : Int32)) dL_line_34 rfl ?_
    refine v_icmp_eq (pc := 35) 69 dL_line_35 rfl (fun hc => ?_) (fun hc => ?_)
    · replace hF := (okB_if hF).1 hc
      exact v_lle [some (sr a0), some (sr a1), some (sr a2), some (sr a3), some (sr a4), some (sr a5), some (sr (some (hN h))), some (si x1), some (si x2), some (si (0 : Int32)), none] ⟨rfl, rfl, rfl, rfl, rfl, rfl, rfl, rfl, rfl, rfl, trivial⟩ (hj5 ((0 : Int32), wN h (20, 12)) (okB_some hF))
    replace hF := (okB_if hF).2 hc
    refine v_aload (pc := 38) (i := 5) dL_line_38 rfl ?_
    refine v_iconst (pc := 40) (v := (0 : Int32)) dL_line_40 rfl ?_
    refine v_iload (pc := 41) (i := 8) dL_line_41 rfl ?_
    refine ch_S (pc := 43) gI (as := [sr a5, si (0 : Int32), si x2]) (st := []) (N := mL_saysKind) (k := 0) (n := 0) (k1 := 0) (n1 := 0) dL_line_43 lkL_40 caL_saysKind csL_saysKind rfl (fun Q1 hq => tL_saysKind a5 (0 : Int32) x2 (wN h (20, 12)) Q1 hq) ⟨by decide, by decide⟩ (Nat.le_of_ble_eq_true rfl) rfl hF (fun x6 h7 hF => ?_)
    show gV G mL_line 2 Q 46 [some (sr a0), some (sr a1), some (sr a2), some (sr a3), some (sr a4), some (sr a5), some (sr (some (hN h))), some (si x1), some (si x2), some (si (0 : Int32)), none] [si x6] (0) (0) h7
    refine v_istore (pc := 46) (i := 9) [some (sr a0), some (sr a1), some (sr a2), some (sr a3), some (sr a4), some (sr a5), some (sr (some (hN h))), some (si x1), some (si x2), some (si x6), none] dL_line_46 (by decide) rfl rfl ?_
    refine v_aload (pc := 48) (i := 5) dL_line_48 rfl ?_
    refine v_iconst (pc := 50) (v := (0 : Int32)) dL_line_50 rfl ?_
    refine v_aload (pc := 51) (i := 5) dL_line_51 rfl ?_
    refine v_iconst (pc := 53) (v := (0 : Int32)) dL_line_53 rfl ?_
    refine s_iald (pc := 54) dL_line_54 hF (fun x8 hF => ?_)
    refine v_bipush (pc := 55) (v := (97 : Int32)) dL_line_55 rfl ?_
    refine v_isub (pc := 57) dL_line_57 ?_
    refine cp_S (pc := 58) gI (as := [si (x8 - (97 : Int32))]) (st := [si (0 : Int32), sr a5]) (N := mL_points) (k := 0) (n := 0) (k1 := 0) (n1 := 0) dL_line_58 lkL_59 caL_points csL_points rfl (fun Q1 hq => tL_points (x8 - (97 : Int32)) h7 Q1 hq) ⟨by decide, by decide⟩ (Nat.le_of_ble_eq_true rfl) rfl hF (fun x9 hF => ?_)
    show gV G mL_line 2 Q 61 [some (sr a0), some (sr a1), some (sr a2), some (sr a3), some (sr a4), some (sr a5), some (sr (some (hN h))), some (si x1), some (si x2), some (si x6), none] [si x9, si (0 : Int32), sr a5] (0) (0) h7
    refine v_sipush (pc := 61) (v := (192 : Int32)) dL_line_61 rfl ?_
    refine v_iadd (pc := 64) dL_line_64 ?_
    refine s_iast (pc := 65) dL_line_65 hF (fun h10 hF => ?_)
    refine v_iconst (pc := 66) (v := (1 : Int32)) dL_line_66 rfl ?_
    refine v_istore (pc := 67) (i := 9) [some (sr a0), some (sr a1), some (sr a2), some (sr a3), some (sr a4), some (sr a5), some (sr (some (hN h))), some (si x1), some (si x2), some (si (1 : Int32)), none] dL_line_67 (by decide) rfl rfl ?_
    exact v_lle [some (sr a0), some (sr a1), some (sr a2), some (sr a3), some (sr a4), some (sr a5), some (sr (some (hN h))), some (si x1), some (si x2), some (si (1 : Int32)), none] ⟨rfl, rfl, rfl, rfl, rfl, rfl, rfl, rfl, rfl, rfl, trivial⟩ (hj5 ((1 : Int32), h10) (okB_some hF))
  refine v_iconst (pc := 69) (v := (0 : Int32)) dL_line_69 rfl ?_
  refine v_istore (pc := 70) (i := 10) [some (sr a0), some (sr a1), some (sr a2), some (sr a3), some (sr a4), some (sr a5), some (sr (some (hN h))), some (si x1), some (si x2), some (si q4.1), some (si (0 : Int32))] dL_line_70 (by decide) rfl rfl ?_
  refine mg (X := fun q11 => gV G mL_line 2 Q 110 [some (sr a0), some (sr a1), some (sr a2), some (sr a3), some (sr a4), some (sr a5), some (sr (some (hN h))), some (si x1), some (si x2), some (si q4.1), none] [] (0) (0) q11) hF (fun _ hj33 hF => v_lle [some (sr a0), some (sr a1), some (sr a2), some (sr a3), some (sr a4), some (sr a5), some (sr (some (hN h))), some (si x1), some (si x2), some (si q4.1), some (si (0 : Int32))] ⟨rfl, rfl, rfl, rfl, rfl, rfl, rfl, rfl, rfl, rfl, rfl, trivial⟩ (lL_line_72 a0 a1 a2 a3 a4 a5 (some (hN h)) x1 x2 q4.1 hj33 FU ((0 : Int32), q4.2) hF)) (fun q11 hF => ?_)
  refine v_aload (pc := 110) (i := 6) dL_line_110 rfl ?_
  refine v_aload_n (pc := 112) (i := 2) dL_line_112 rfl rfl ?_
  refine v_iload (pc := 113) (i := 7) dL_line_113 rfl ?_
  refine s_lald (pc := 115) dL_line_115 hF (fun x12 hF => ?_)
  refine cp_S (pc := 116) gI (as := [sl x12]) (st := [sr (some (hN h))]) (N := mL_nameMany) (k := 0) (n := 0) (k1 := 0) (n1 := 0) dL_line_116 lkL_34 caL_nameMany csL_nameMany rfl (fun Q1 hq => tL_nameMany x12 q11 Q1 hq) ⟨by decide, by decide⟩ (Nat.le_of_ble_eq_true rfl) rfl hF (fun x13 hF => ?_)
  show gV G mL_line 2 Q 119 [some (sr a0), some (sr a1), some (sr a2), some (sr a3), some (sr a4), some (sr a5), some (sr (some (hN h))), some (si x1), some (si x2), some (si q4.1), none] [si x13, sr (some (hN h))] (0) (0) q11
  refine v_aload (pc := 119) (i := 5) dL_line_119 rfl ?_
  refine v_iload (pc := 121) (i := 9) dL_line_121 rfl ?_
  refine ch_S (pc := 123) gI (as := [sr (some (hN h)), si x13, sr a5, si q4.1]) (st := []) (N := mL_writes) (k := 0) (n := 0) (k1 := 0) (n1 := 0) dL_line_123 lkL_63 caL_writes csL_writes rfl (fun Q1 hq => tL_writes (some (hN h)) x13 a5 q4.1 q11 Q1 hq) ⟨by decide, by decide⟩ (Nat.le_of_ble_eq_true rfl) rfl hF (fun x14 h15 hF => ?_)
  show gV G mL_line 2 Q 126 [some (sr a0), some (sr a1), some (sr a2), some (sr a3), some (sr a4), some (sr a5), some (sr (some (hN h))), some (si x1), some (si x2), some (si q4.1), none] [si x14] (0) (0) h15
  refine v_istore (pc := 126) (i := 9) [some (sr a0), some (sr a1), some (sr a2), some (sr a3), some (sr a4), some (sr a5), some (sr (some (hN h))), some (si x1), some (si x2), some (si x14), none] dL_line_126 (by decide) rfl rfl ?_
  refine v_iload (pc := 128) (i := 8) dL_line_128 rfl ?_
  refine v_iconst (pc := 130) (v := (3 : Int32)) dL_line_130 rfl ?_
  refine mg (X := fun q16 => gV G mL_line 2 Q 172 [some (sr a0), none, none, some (sr a3), some (sr a4), some (sr a5), some (sr (some (hN h))), some (si x1), none, some (si q16.1), none] [] (0) (0) q16.2) hF (fun _ hj17 hF => ?_) (fun q16 hF => ?_)
  · refine v_icmp_ne (pc := 131) 172 dL_line_131 rfl (fun hc => ?_) (fun hc => ?_)
    · replace hF := (okB_if hF).2 hc
      exact v_lle [some (sr a0), none, none, some (sr a3), some (sr a4), some (sr a5), some (sr (some (hN h))), some (si x1), none, some (si x14), none] ⟨rfl, rfl, rfl, rfl, rfl, rfl, rfl, trivial⟩ (hj17 (x14, h15) (okB_some hF))
    replace hF := (okB_if hF).1 hc
    refine v_aload (pc := 134) (i := 5) dL_line_134 rfl ?_
    refine v_iload (pc := 136) (i := 9) dL_line_136 rfl ?_
    refine v_iconst (pc := 138) (v := (0 : Int32)) dL_line_138 rfl ?_
    refine s_iast (pc := 139) dL_line_139 hF (fun h18 hF => ?_)
    refine v_aload (pc := 140) (i := 5) dL_line_140 rfl ?_
    refine v_iload (pc := 142) (i := 9) dL_line_142 rfl ?_
    refine v_iconst (pc := 144) (v := (1 : Int32)) dL_line_144 rfl ?_
    refine v_iadd (pc := 145) dL_line_145 ?_
    refine v_aload_n (pc := 146) (i := 1) dL_line_146 rfl rfl ?_
    refine v_bipush (pc := 147) (v := (6 : Int32)) dL_line_147 rfl ?_
    refine v_iload (pc := 149) (i := 7) dL_line_149 rfl ?_
    refine v_imul (pc := 151) dL_line_151 ?_
    refine v_iconst (pc := 152) (v := (3 : Int32)) dL_line_152 rfl ?_
    refine v_iadd (pc := 153) dL_line_153 ?_
    refine s_iald (pc := 154) dL_line_154 hF (fun x19 hF => ?_)
    refine v_iconst (pc := 155) (v := (4 : Int32)) dL_line_155 rfl ?_
    refine v_iand (pc := 156) dL_line_156 ?_
    refine v_iconst (pc := 157) (v := (4 : Int32)) dL_line_157 rfl ?_
    refine v_icmp_ne (pc := 158) 166 dL_line_158 rfl (fun hc => ?_) (fun hc => ?_)
    · replace hF := (okB_if hF).2 hc
      refine v_bipush (pc := 166) (v := (36 : Int32)) dL_line_166 rfl ?_
      refine s_iast (pc := 168) dL_line_168 hF (fun h20 hF => ?_)
      refine v_iinc (pc := 169) (i := 9) (x14 + (2 : Int32)) [some (sr a0), some (sr a1), some (sr a2), some (sr a3), some (sr a4), some (sr a5), some (sr (some (hN h))), some (si x1), some (si x2), some (si (x14 + (2 : Int32))), none] dL_line_169 rfl rfl rfl rfl ?_
      exact v_lle [some (sr a0), none, none, some (sr a3), some (sr a4), some (sr a5), some (sr (some (hN h))), some (si x1), none, some (si (x14 + (2 : Int32))), none] ⟨rfl, rfl, rfl, rfl, rfl, rfl, rfl, trivial⟩ (hj17 (x14 + (2 : Int32), h20) (okB_some hF))
    replace hF := (okB_if hF).1 hc
    refine v_bipush (pc := 161) (v := (63 : Int32)) dL_line_161 rfl ?_
    refine v_goto (pc := 163) 168 dL_line_163 rfl ?_
    refine s_iast (pc := 168) dL_line_168 hF (fun h21 hF => ?_)
    refine v_iinc (pc := 169) (i := 9) (x14 + (2 : Int32)) [some (sr a0), some (sr a1), some (sr a2), some (sr a3), some (sr a4), some (sr a5), some (sr (some (hN h))), some (si x1), some (si x2), some (si (x14 + (2 : Int32))), none] dL_line_169 rfl rfl rfl rfl ?_
    exact v_lle [some (sr a0), none, none, some (sr a3), some (sr a4), some (sr a5), some (sr (some (hN h))), some (si x1), none, some (si (x14 + (2 : Int32))), none] ⟨rfl, rfl, rfl, rfl, rfl, rfl, rfl, trivial⟩ (hj17 (x14 + (2 : Int32), h21) (okB_some hF))
  refine v_aload (pc := 172) (i := 4) dL_line_172 rfl ?_
  refine v_iload (pc := 174) (i := 7) dL_line_174 rfl ?_
  refine s_iald (pc := 176) dL_line_176 hF (fun x22 hF => ?_)
  refine mg (X := fun q23 => gV G mL_line 2 Q 237 [some (sr a0), none, none, none, none, some (sr a5), none, none, none, some (si q23.1), none] [] (0) (0) q23.2) hF (fun _ hj24 hF => ?_) (fun q23 hF => ?_)
  · refine v_if_le (pc := 177) 237 dL_line_177 rfl (fun hc => ?_) (fun hc => ?_)
    · replace hF := (okB_if hF).1 hc
      exact v_lle [some (sr a0), none, none, none, none, some (sr a5), none, none, none, some (si q16.1), none] ⟨rfl, rfl, rfl, trivial⟩ (hj24 (q16.1, q16.2) (okB_some hF))
    replace hF := (okB_if hF).2 hc
    refine v_aload (pc := 180) (i := 5) dL_line_180 rfl ?_
    refine v_iload (pc := 182) (i := 9) dL_line_182 rfl ?_
    refine v_iconst (pc := 184) (v := (0 : Int32)) dL_line_184 rfl ?_
    refine s_iast (pc := 185) dL_line_185 hF (fun h25 hF => ?_)
    refine v_iinc (pc := 186) (i := 9) (q16.1 + (1 : Int32)) [some (sr a0), none, none, some (sr a3), some (sr a4), some (sr a5), some (sr (some (hN h))), some (si x1), none, some (si (q16.1 + (1 : Int32))), none] dL_line_186 rfl rfl rfl rfl ?_
    refine v_iconst (pc := 189) (v := (0 : Int32)) dL_line_189 rfl ?_
    refine v_istore (pc := 190) (i := 10) [some (sr a0), none, none, some (sr a3), some (sr a4), some (sr a5), some (sr (some (hN h))), some (si x1), none, some (si (q16.1 + (1 : Int32))), some (si (0 : Int32))] dL_line_190 (by decide) rfl rfl ?_
    refine mg (X := fun q26 => gV G mL_line 2 Q 221 [some (sr a0), none, none, none, some (sr a4), some (sr a5), some (sr (some (hN h))), some (si x1), none, some (si (q16.1 + (1 : Int32))), none] [] (0) (0) q26) hF (fun _ hj30 hF => v_lle [some (sr a0), none, none, some (sr a3), some (sr a4), some (sr a5), some (sr (some (hN h))), some (si x1), none, some (si (q16.1 + (1 : Int32))), some (si (0 : Int32))] ⟨rfl, rfl, rfl, rfl, rfl, rfl, rfl, rfl, trivial⟩ (lL_line_192 a0 a3 a4 a5 (some (hN h)) x1 (q16.1 + (1 : Int32)) hj30 FU ((0 : Int32), h25) hF)) (fun q26 hF => ?_)
    refine v_aload (pc := 221) (i := 6) dL_line_221 rfl ?_
    refine v_aload (pc := 223) (i := 4) dL_line_223 rfl ?_
    refine v_iload (pc := 225) (i := 7) dL_line_225 rfl ?_
    refine s_iald (pc := 227) dL_line_227 hF (fun x27 hF => ?_)
    refine v_aload (pc := 228) (i := 5) dL_line_228 rfl ?_
    refine v_iload (pc := 230) (i := 9) dL_line_230 rfl ?_
    refine ch_S (pc := 232) gI (as := [sr (some (hN h)), si x27, sr a5, si (q16.1 + (1 : Int32))]) (st := []) (N := mL_writes) (k := 0) (n := 0) (k1 := 0) (n1 := 0) dL_line_232 lkL_63 caL_writes csL_writes rfl (fun Q1 hq => tL_writes (some (hN h)) x27 a5 (q16.1 + (1 : Int32)) q26 Q1 hq) ⟨by decide, by decide⟩ (Nat.le_of_ble_eq_true rfl) rfl hF (fun x28 h29 hF => ?_)
    show gV G mL_line 2 Q 235 [some (sr a0), none, none, none, some (sr a4), some (sr a5), some (sr (some (hN h))), some (si x1), none, some (si (q16.1 + (1 : Int32))), none] [si x28] (0) (0) h29
    refine v_istore (pc := 235) (i := 9) [some (sr a0), none, none, none, some (sr a4), some (sr a5), some (sr (some (hN h))), some (si x1), none, some (si x28), none] dL_line_235 (by decide) rfl rfl ?_
    exact v_lle [some (sr a0), none, none, none, none, some (sr a5), none, none, none, some (si x28), none] ⟨rfl, rfl, rfl, trivial⟩ (hj24 (x28, h29) (okB_some hF))
  refine v_aload_n (pc := 237) (i := 0) dL_line_237 rfl rfl ?_
  refine v_iconst (pc := 238) (v := (4 : Int32)) dL_line_238 rfl ?_
  refine s_iald (pc := 239) dL_line_239 hF (fun x31 hF => ?_)
  refine v_iconst (pc := 240) (v := (1 : Int32)) dL_line_240 rfl ?_
  refine v_icmp_ne (pc := 241) 255 dL_line_241 rfl (fun hc => ?_) (fun hc => ?_)
  · replace hF := (okB_if hF).2 hc
    refine v_iload (pc := 255) (i := 9) dL_line_255 rfl ?_
    exact v_iret (pc := 257) dL_line_257 rfl rfl (okr hF fun q => q)
  replace hF := (okB_if hF).1 hc
  refine v_aload (pc := 244) (i := 5) dL_line_244 rfl ?_
  refine v_iload (pc := 246) (i := 9) dL_line_246 rfl ?_
  refine v_sipush (pc := 248) (v := (192 : Int32)) dL_line_248 rfl ?_
  refine s_iast (pc := 251) dL_line_251 hF (fun h32 hF => ?_)
  refine v_iinc (pc := 252) (i := 9) (q23.1 + (1 : Int32)) [some (sr a0), none, none, none, none, some (sr a5), none, none, none, some (si (q23.1 + (1 : Int32))), none] dL_line_252 rfl rfl rfl rfl ?_
  refine v_iload (pc := 255) (i := 9) dL_line_255 rfl ?_
  exact v_iret (pc := 257) dL_line_257 rfl rfl (okr hF fun q => q)
/-! BrailleDeskLaw.goes -/
theorem tL_goes {G : gG} (a0 : (Option Nat)) (a1 : Int32) (h : hp) (Q : hQ) (hF : okB (fL_goes a0 a1 h) (pH gU Q)) : gS G mL_goes 0 0 0 [sr a0, si a1] h Q := by
  delta fL_goes at hF
  refine gS_at [some (sr a0), some (si a1)] pl_L rfl (Nat.le_of_ble_eq_true rfl) rfl ?_
  refine v_iload_n (pc := 0) (i := 1) dL_goes_0 rfl rfl ?_
  refine v_if_lt (pc := 1) 29 dL_goes_1 rfl (fun hc => ?_) (fun hc => ?_)
  · replace hF := (okB_if hF).1 hc
    exact v_ret (pc := 29) dL_goes_29 rfl (okr hF fun q => q)
  replace hF := (okB_if hF).2 hc
  refine v_aload_n (pc := 4) (i := 0) dL_goes_4 rfl rfl ?_
  refine v_iconst (pc := 5) (v := (4 : Int32)) dL_goes_5 rfl ?_
  refine v_iconst (pc := 6) (v := (0 : Int32)) dL_goes_6 rfl ?_
  refine s_iast (pc := 7) dL_goes_7 hF (fun h1 hF => ?_)
  refine v_aload_n (pc := 8) (i := 0) dL_goes_8 rfl rfl ?_
  refine v_iconst (pc := 9) (v := (3 : Int32)) dL_goes_9 rfl ?_
  refine v_iload_n (pc := 10) (i := 1) dL_goes_10 rfl rfl ?_
  refine v_aload_n (pc := 11) (i := 0) dL_goes_11 rfl rfl ?_
  refine v_iconst (pc := 12) (v := (1 : Int32)) dL_goes_12 rfl ?_
  refine s_iald (pc := 13) dL_goes_13 hF (fun x2 hF => ?_)
  refine v_icmp_ne (pc := 14) 23 dL_goes_14 rfl (fun hc => ?_) (fun hc => ?_)
  · replace hF := (okB_if hF).2 hc
    refine v_iconst (pc := 23) (v := (0 : Int32)) dL_goes_23 rfl ?_
    refine s_iast (pc := 24) dL_goes_24 hF (fun h3 hF => ?_)
    refine v_aload_n (pc := 25) (i := 0) dL_goes_25 rfl rfl ?_
    refine v_iconst (pc := 26) (v := (1 : Int32)) dL_goes_26 rfl ?_
    refine v_iload_n (pc := 27) (i := 1) dL_goes_27 rfl rfl ?_
    refine s_iast (pc := 28) dL_goes_28 hF (fun h4 hF => ?_)
    exact v_ret (pc := 29) dL_goes_29 rfl (okr hF fun q => q)
  replace hF := (okB_if hF).1 hc
  refine v_aload_n (pc := 17) (i := 0) dL_goes_17 rfl rfl ?_
  refine v_iconst (pc := 18) (v := (3 : Int32)) dL_goes_18 rfl ?_
  refine s_iald (pc := 19) dL_goes_19 hF (fun x5 hF => ?_)
  refine v_goto (pc := 20) 24 dL_goes_20 rfl ?_
  refine s_iast (pc := 24) dL_goes_24 hF (fun h6 hF => ?_)
  refine v_aload_n (pc := 25) (i := 0) dL_goes_25 rfl rfl ?_
  refine v_iconst (pc := 26) (v := (1 : Int32)) dL_goes_26 rfl ?_
  refine v_iload_n (pc := 27) (i := 1) dL_goes_27 rfl rfl ?_
  refine s_iast (pc := 28) dL_goes_28 hF (fun h7 hF => ?_)
  exact v_ret (pc := 29) dL_goes_29 rfl (okr hF fun q => q)
/-! BrailleDeskLaw.canFocus -/
theorem tL_canFocus {G : gG} (a0 : (Option Nat)) (a1 : Int32) (h : hp) (Q : hQ) (hF : okB (fL_canFocus a0 a1 h) (pP gI Q h)) : gS G mL_canFocus 0 0 0 [sr a0, si a1] h Q := by
  delta fL_canFocus at hF
  refine gS_at [some (sr a0), some (si a1)] pl_L rfl (Nat.le_of_ble_eq_true rfl) rfl ?_
  refine v_aload_n (pc := 0) (i := 0) dL_canFocus_0 rfl rfl ?_
  refine v_bipush (pc := 1) (v := (6 : Int32)) dL_canFocus_1 rfl ?_
  refine v_iload_n (pc := 3) (i := 1) dL_canFocus_3 rfl rfl ?_
  refine v_imul (pc := 4) dL_canFocus_4 ?_
  refine s_iald (pc := 5) dL_canFocus_5 hF (fun x1 hF => ?_)
  refine v_iconst (pc := 6) (v := (1 : Int32)) dL_canFocus_6 rfl ?_
  refine v_icmp_le (pc := 7) 24 dL_canFocus_7 rfl (fun hc => ?_) (fun hc => ?_)
  · replace hF := (okB_if hF).1 hc
    refine v_iconst (pc := 24) (v := (0 : Int32)) dL_canFocus_24 rfl ?_
    exact v_iret (pc := 25) dL_canFocus_25 rfl rfl (okr hF fun q => q)
  replace hF := (okB_if hF).2 hc
  refine v_aload_n (pc := 10) (i := 0) dL_canFocus_10 rfl rfl ?_
  refine v_bipush (pc := 11) (v := (6 : Int32)) dL_canFocus_11 rfl ?_
  refine v_iload_n (pc := 13) (i := 1) dL_canFocus_13 rfl rfl ?_
  refine v_imul (pc := 14) dL_canFocus_14 ?_
  refine s_iald (pc := 15) dL_canFocus_15 hF (fun x2 hF => ?_)
  refine v_iconst (pc := 16) (v := (5 : Int32)) dL_canFocus_16 rfl ?_
  refine v_icmp_ge (pc := 17) 24 dL_canFocus_17 rfl (fun hc => ?_) (fun hc => ?_)
  · replace hF := (okB_if hF).1 hc
    refine v_iconst (pc := 24) (v := (0 : Int32)) dL_canFocus_24 rfl ?_
    exact v_iret (pc := 25) dL_canFocus_25 rfl rfl (okr hF fun q => q)
  replace hF := (okB_if hF).2 hc
  refine v_iconst (pc := 20) (v := (1 : Int32)) dL_canFocus_20 rfl ?_
  refine v_goto (pc := 21) 25 dL_canFocus_21 rfl ?_
  exact v_iret (pc := 25) dL_canFocus_25 rfl rfl (okr hF fun q => q)
/-! BrailleDeskLaw.before -/
theorem lL_before_5 {G : gG} {Q : hQ} {P : Int32 → Prop} {k n : Nat} (c0 : (Option Nat)) (c1 : (Option Nat)) (c2 : Int32) (h : hp) (hJ : ∀ q : Int32, P q → gV G mL_before 3 Q 23 [none, none, none, none, some (si q)] [] (k) (n) h) : ∀ (fu : Nat) (a : (Int32 × Int32)), okB (itr (fL_before_B5 c0 c1 c2 h) fu a) P → gV G mL_before 3 Q 5 [some (sr c0), some (sr c1), some (si c2), some (si a.1), some (si a.2)] [] (k) (n) h :=
  lpg (X := fun (a : (Int32 × Int32)) => gV G mL_before 3 Q 5 [some (sr c0), some (sr c1), some (si c2), some (si a.1), some (si a.2)] [] (k) (n) h) (fun a P2 hL hE hF => by
    delta fL_before_B5 at hF
    refine v_iload_n (pc := 5) (i := 3) dL_before_5 rfl rfl ?_
    refine v_iload_n (pc := 6) (i := 2) dL_before_6 rfl rfl ?_
    refine v_icmp_eq (pc := 7) 23 dL_before_7 rfl (fun hc => ?_) (fun hc => ?_)
    · replace hF := (okB_if hF).1 hc
      exact v_lle [none, none, none, none, some (si a.2)] ⟨rfl, trivial⟩ (hJ a.2 (hE _ (okB_some hF)))
    replace hF := (okB_if hF).2 hc
    refine v_iload_n (pc := 10) (i := 3) dL_before_10 rfl rfl ?_
    refine v_istore (pc := 11) (i := 4) [some (sr c0), some (sr c1), some (si c2), some (si a.1), some (si a.1)] dL_before_11 (by decide) rfl rfl ?_
    refine v_aload_n (pc := 13) (i := 0) dL_before_13 rfl rfl ?_
    refine v_aload_n (pc := 14) (i := 1) dL_before_14 rfl rfl ?_
    refine v_iload_n (pc := 15) (i := 3) dL_before_15 rfl rfl ?_
    refine cp_S (pc := 16) gI (as := [sr c0, sr c1, si a.1]) (st := []) (N := mL_next) (k := k) (n := n) (k1 := 0) (n1 := 0) dL_before_16 lkL_67 caL_next csL_next rfl (fun Q1 hq => tL_next c0 c1 a.1 h Q1 hq) ⟨by decide, by decide⟩ (Nat.le_of_ble_eq_true rfl) rfl hF (fun x1 hF => ?_)
    show gV G mL_before 3 Q 19 [some (sr c0), some (sr c1), some (si c2), some (si a.1), some (si a.1)] [si x1] (k) (n) h
    refine v_istore_n (pc := 19) (i := 3) [some (sr c0), some (sr c1), some (si c2), some (si x1), some (si a.1)] dL_before_19 rfl (by decide) rfl rfl ?_
    refine v_goto (pc := 20) 5 dL_before_20 rfl ?_
    exact v_lle [some (sr c0), some (sr c1), some (si c2), some (si x1), some (si a.1)] ⟨rfl, rfl, rfl, rfl, rfl, trivial⟩ (hL (x1, a.1) (okB_some hF)))
theorem tL_before {G : gG} (a0 : (Option Nat)) (a1 : (Option Nat)) (a2 : Int32) (h : hp) (Q : hQ) (hF : okB (fL_before a0 a1 a2 h) (pP gI Q h)) : gS G mL_before 3 0 0 [sr a0, sr a1, si a2] h Q := by
  delta fL_before at hF
  refine gS_at [some (sr a0), some (sr a1), some (si a2), none, none] pl_L rfl (Nat.le_of_ble_eq_true rfl) rfl ?_
  refine v_iconst (pc := 0) (v := (0 : Int32)) dL_before_0 rfl ?_
  refine v_istore_n (pc := 1) (i := 3) [some (sr a0), some (sr a1), some (si a2), some (si (0 : Int32)), none] dL_before_1 rfl (by decide) rfl rfl ?_
  refine v_iconst (pc := 2) (v := (-1 : Int32)) dL_before_2 rfl ?_
  refine v_istore (pc := 3) (i := 4) [some (sr a0), some (sr a1), some (si a2), some (si (0 : Int32)), some (si (-1 : Int32))] dL_before_3 (by decide) rfl rfl ?_
  refine mg (X := fun q1 => gV G mL_before 3 Q 23 [none, none, none, none, some (si q1)] [] (0) (0) h) hF (fun _ hj2 hF => v_lle [some (sr a0), some (sr a1), some (si a2), some (si (0 : Int32)), some (si (-1 : Int32))] ⟨rfl, rfl, rfl, rfl, rfl, trivial⟩ (lL_before_5 a0 a1 a2 h hj2 FU ((0 : Int32), (-1 : Int32)) hF)) (fun q1 hF => ?_)
  refine v_iload (pc := 23) (i := 4) dL_before_23 rfl ?_
  exact v_iret (pc := 25) dL_before_25 rfl rfl (okr hF fun q => q)
