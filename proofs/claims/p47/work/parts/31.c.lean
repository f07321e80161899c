/-! ===== methods: their functions and rows ===== -/
theorem dX5_act_0 : decode cX5_act 0 = .ok (.aload_n 0, 1) := by decide +kernel
theorem dX5_act_1 : decode cX5_act 1 = .ok (.invokevirtual 139, 3) := by decide +kernel
theorem dX5_act_4 : decode cX5_act 4 = .ok (.aload_n 0, 1) := by decide +kernel
theorem dX5_act_5 : decode cX5_act 5 = .ok (.getfield 48, 3) := by decide +kernel
theorem dX5_act_8 : decode cX5_act 8 = .ok (.getfield 172, 3) := by decide +kernel
theorem dX5_act_11 : decode cX5_act 11 = .ok (.tableswitch 109 2 4 #[25, 47, 93], 25) := by decide +kernel
theorem dX5_act_36 : decode cX5_act 36 = .ok (.aload_n 0, 1) := by decide +kernel
theorem dX5_act_37 : decode cX5_act 37 = .ok (.getfield 48, 3) := by decide +kernel
theorem dX5_act_40 : decode cX5_act 40 = .ok (.dup, 1) := by decide +kernel
theorem dX5_act_41 : decode cX5_act 41 = .ok (.getfield 213, 3) := by decide +kernel
theorem dX5_act_44 : decode cX5_act 44 = .ok (.iconst 1, 1) := by decide +kernel
theorem dX5_act_45 : decode cX5_act 45 = .ok (.iadd, 1) := by decide +kernel
theorem dX5_act_46 : decode cX5_act 46 = .ok (.putfield 213, 3) := by decide +kernel
theorem dX5_act_49 : decode cX5_act 49 = .ok (.aload_n 0, 1) := by decide +kernel
theorem dX5_act_50 : decode cX5_act 50 = .ok (.ldc 216, 2) := by decide +kernel
theorem dX5_act_52 : decode cX5_act 52 = .ok (.invokevirtual 161, 3) := by decide +kernel
theorem dX5_act_55 : decode cX5_act 55 = .ok (.goto 71, 3) := by decide +kernel
theorem dX5_act_58 : decode cX5_act 58 = .ok (.aload_n 0, 1) := by decide +kernel
theorem dX5_act_59 : decode cX5_act 59 = .ok (.getfield 48, 3) := by decide +kernel
theorem dX5_act_62 : decode cX5_act 62 = .ok (.aload_n 0, 1) := by decide +kernel
theorem dX5_act_63 : decode cX5_act 63 = .ok (.getfield 48, 3) := by decide +kernel
theorem dX5_act_66 : decode cX5_act 66 = .ok (.getfield 217, 3) := by decide +kernel
theorem dX5_act_69 : decode cX5_act 69 = .ok (.ifCond .ne 7, 3) := by decide +kernel
theorem dX5_act_72 : decode cX5_act 72 = .ok (.iconst 1, 1) := by decide +kernel
theorem dX5_act_73 : decode cX5_act 73 = .ok (.goto 4, 3) := by decide +kernel
theorem dX5_act_76 : decode cX5_act 76 = .ok (.iconst 0, 1) := by decide +kernel
theorem dX5_act_77 : decode cX5_act 77 = .ok (.putfield 217, 3) := by decide +kernel
theorem dX5_act_80 : decode cX5_act 80 = .ok (.aload_n 0, 1) := by decide +kernel
theorem dX5_act_81 : decode cX5_act 81 = .ok (.aload_n 0, 1) := by decide +kernel
theorem dX5_act_82 : decode cX5_act 82 = .ok (.getfield 48, 3) := by decide +kernel
theorem dX5_act_85 : decode cX5_act 85 = .ok (.getfield 217, 3) := by decide +kernel
theorem dX5_act_88 : decode cX5_act 88 = .ok (.ifCond .eq 8, 3) := by decide +kernel
theorem dX5_act_91 : decode cX5_act 91 = .ok (.ldc 220, 2) := by decide +kernel
theorem dX5_act_93 : decode cX5_act 93 = .ok (.goto 5, 3) := by decide +kernel
theorem dX5_act_96 : decode cX5_act 96 = .ok (.ldc 222, 2) := by decide +kernel
theorem dX5_act_98 : decode cX5_act 98 = .ok (.invokevirtual 161, 3) := by decide +kernel
theorem dX5_act_101 : decode cX5_act 101 = .ok (.goto 25, 3) := by decide +kernel
theorem dX5_act_104 : decode cX5_act 104 = .ok (.aload_n 0, 1) := by decide +kernel
theorem dX5_act_105 : decode cX5_act 105 = .ok (.getfield 29, 3) := by decide +kernel
theorem dX5_act_108 : decode cX5_act 108 = .ok (.invokevirtual 224, 3) := by decide +kernel
theorem dX5_act_111 : decode cX5_act 111 = .ok (.aload_n 0, 1) := by decide +kernel
theorem dX5_act_112 : decode cX5_act 112 = .ok (.ldc 227, 2) := by decide +kernel
theorem dX5_act_114 : decode cX5_act 114 = .ok (.invokevirtual 161, 3) := by decide +kernel
theorem dX5_act_117 : decode cX5_act 117 = .ok (.goto 9, 3) := by decide +kernel
theorem dX5_act_120 : decode cX5_act 120 = .ok (.aload_n 0, 1) := by decide +kernel
theorem dX5_act_121 : decode cX5_act 121 = .ok (.ldc 122, 2) := by decide +kernel
theorem dX5_act_123 : decode cX5_act 123 = .ok (.invokevirtual 161, 3) := by decide +kernel
theorem dX5_act_126 : decode cX5_act 126 = .ok (.return_, 1) := by decide +kernel
theorem dX5_command_0 : decode cX5_command 0 = .ok (.iload_n 1, 1) := by decide +kernel
theorem dX5_command_1 : decode cX5_command 1 = .ok (.lookupswitch 325 #[(1, 107), (2, 194), (4, 165), (7, 287), (8, 136), (16, 220), (23, 307), (30, 246), (32, 181), (56, 297), (64, 277), (128, 270)], 107) := by decide +kernel
theorem dX5_command_108 : decode cX5_command 108 = .ok (.aload_n 0, 1) := by decide +kernel
theorem dX5_command_109 : decode cX5_command 109 = .ok (.aload_n 0, 1) := by decide +kernel
theorem dX5_command_110 : decode cX5_command 110 = .ok (.getfield 9, 3) := by decide +kernel
theorem dX5_command_113 : decode cX5_command 113 = .ok (.aload_n 0, 1) := by decide +kernel
theorem dX5_command_114 : decode cX5_command 114 = .ok (.getfield 9, 3) := by decide +kernel
theorem dX5_command_117 : decode cX5_command 117 = .ok (.aload_n 0, 1) := by decide +kernel
theorem dX5_command_118 : decode cX5_command 118 = .ok (.getfield 48, 3) := by decide +kernel
theorem dX5_command_121 : decode cX5_command 121 = .ok (.invokevirtual 106, 3) := by decide +kernel
theorem dX5_command_124 : decode cX5_command 124 = .ok (.iconst 1, 1) := by decide +kernel
theorem dX5_command_125 : decode cX5_command 125 = .ok (.isub, 1) := by decide +kernel
theorem dX5_command_126 : decode cX5_command 126 = .ok (.invokevirtual 110, 3) := by decide +kernel
theorem dX5_command_129 : decode cX5_command 129 = .ok (.ldc 114, 2) := by decide +kernel
theorem dX5_command_131 : decode cX5_command 131 = .ok (.invokevirtual 115, 3) := by decide +kernel
theorem dX5_command_134 : decode cX5_command 134 = .ok (.goto 192, 3) := by decide +kernel
theorem dX5_command_137 : decode cX5_command 137 = .ok (.aload_n 0, 1) := by decide +kernel
theorem dX5_command_138 : decode cX5_command 138 = .ok (.aload_n 0, 1) := by decide +kernel
theorem dX5_command_139 : decode cX5_command 139 = .ok (.getfield 9, 3) := by decide +kernel
theorem dX5_command_142 : decode cX5_command 142 = .ok (.aload_n 0, 1) := by decide +kernel
theorem dX5_command_143 : decode cX5_command 143 = .ok (.getfield 9, 3) := by decide +kernel
theorem dX5_command_146 : decode cX5_command 146 = .ok (.aload_n 0, 1) := by decide +kernel
theorem dX5_command_147 : decode cX5_command 147 = .ok (.getfield 48, 3) := by decide +kernel
theorem dX5_command_150 : decode cX5_command 150 = .ok (.invokevirtual 106, 3) := by decide +kernel
theorem dX5_command_153 : decode cX5_command 153 = .ok (.iconst 1, 1) := by decide +kernel
theorem dX5_command_154 : decode cX5_command 154 = .ok (.iadd, 1) := by decide +kernel
theorem dX5_command_155 : decode cX5_command 155 = .ok (.invokevirtual 110, 3) := by decide +kernel
theorem dX5_command_158 : decode cX5_command 158 = .ok (.ldc 114, 2) := by decide +kernel
theorem dX5_command_160 : decode cX5_command 160 = .ok (.invokevirtual 115, 3) := by decide +kernel
theorem dX5_command_163 : decode cX5_command 163 = .ok (.goto 163, 3) := by decide +kernel
theorem dX5_command_166 : decode cX5_command 166 = .ok (.aload_n 0, 1) := by decide +kernel
theorem dX5_command_167 : decode cX5_command 167 = .ok (.aload_n 0, 1) := by decide +kernel
theorem dX5_command_168 : decode cX5_command 168 = .ok (.getfield 48, 3) := by decide +kernel
theorem dX5_command_171 : decode cX5_command 171 = .ok (.getfield 119, 3) := by decide +kernel
theorem dX5_command_174 : decode cX5_command 174 = .ok (.ldc 122, 2) := by decide +kernel
theorem dX5_command_176 : decode cX5_command 176 = .ok (.invokevirtual 115, 3) := by decide +kernel
theorem dX5_command_179 : decode cX5_command 179 = .ok (.goto 147, 3) := by decide +kernel
theorem dX5_command_182 : decode cX5_command 182 = .ok (.aload_n 0, 1) := by decide +kernel
theorem dX5_command_183 : decode cX5_command 183 = .ok (.aload_n 0, 1) := by decide +kernel
theorem dX5_command_184 : decode cX5_command 184 = .ok (.invokevirtual 124, 3) := by decide +kernel
theorem dX5_command_187 : decode cX5_command 187 = .ok (.ldc 122, 2) := by decide +kernel
theorem dX5_command_189 : decode cX5_command 189 = .ok (.invokevirtual 115, 3) := by decide +kernel
theorem dX5_command_192 : decode cX5_command 192 = .ok (.goto 134, 3) := by decide +kernel
theorem dX5_command_195 : decode cX5_command 195 = .ok (.aload_n 0, 1) := by decide +kernel
theorem dX5_command_196 : decode cX5_command 196 = .ok (.aload_n 0, 1) := by decide +kernel
theorem dX5_command_197 : decode cX5_command 197 = .ok (.iconst (-1), 1) := by decide +kernel
theorem dX5_command_198 : decode cX5_command 198 = .ok (.invokevirtual 128, 3) := by decide +kernel
theorem dX5_command_201 : decode cX5_command 201 = .ok (.aload_n 0, 1) := by decide +kernel
theorem dX5_command_202 : decode cX5_command 202 = .ok (.invokevirtual 131, 3) := by decide +kernel
theorem dX5_command_205 : decode cX5_command 205 = .ok (.ifCond .eq 8, 3) := by decide +kernel
theorem dX5_command_208 : decode cX5_command 208 = .ok (.ldc 114, 2) := by decide +kernel
theorem dX5_command_210 : decode cX5_command 210 = .ok (.goto 5, 3) := by decide +kernel
theorem dX5_command_213 : decode cX5_command 213 = .ok (.ldc 122, 2) := by decide +kernel
theorem dX5_command_215 : decode cX5_command 215 = .ok (.invokevirtual 115, 3) := by decide +kernel
theorem dX5_command_218 : decode cX5_command 218 = .ok (.goto 108, 3) := by decide +kernel
theorem dX5_command_221 : decode cX5_command 221 = .ok (.aload_n 0, 1) := by decide +kernel
theorem dX5_command_222 : decode cX5_command 222 = .ok (.aload_n 0, 1) := by decide +kernel
theorem dX5_command_223 : decode cX5_command 223 = .ok (.iconst 1, 1) := by decide +kernel
theorem dX5_command_224 : decode cX5_command 224 = .ok (.invokevirtual 128, 3) := by decide +kernel
theorem dX5_command_227 : decode cX5_command 227 = .ok (.aload_n 0, 1) := by decide +kernel
theorem dX5_command_228 : decode cX5_command 228 = .ok (.invokevirtual 131, 3) := by decide +kernel
theorem dX5_command_231 : decode cX5_command 231 = .ok (.ifCond .eq 8, 3) := by decide +kernel
theorem dX5_command_234 : decode cX5_command 234 = .ok (.ldc 114, 2) := by decide +kernel
theorem dX5_command_236 : decode cX5_command 236 = .ok (.goto 5, 3) := by decide +kernel
theorem dX5_command_239 : decode cX5_command 239 = .ok (.ldc 122, 2) := by decide +kernel
theorem dX5_command_241 : decode cX5_command 241 = .ok (.invokevirtual 115, 3) := by decide +kernel
theorem dX5_command_244 : decode cX5_command 244 = .ok (.goto 82, 3) := by decide +kernel
theorem dX5_command_247 : decode cX5_command 247 = .ok (.aload_n 0, 1) := by decide +kernel
theorem dX5_command_248 : decode cX5_command 248 = .ok (.aload_n 0, 1) := by decide +kernel
theorem dX5_command_249 : decode cX5_command 249 = .ok (.getfield 9, 3) := by decide +kernel
theorem dX5_command_252 : decode cX5_command 252 = .ok (.aload_n 0, 1) := by decide +kernel
theorem dX5_command_253 : decode cX5_command 253 = .ok (.getfield 48, 3) := by decide +kernel
theorem dX5_command_256 : decode cX5_command 256 = .ok (.invokevirtual 135, 3) := by decide +kernel
theorem dX5_command_259 : decode cX5_command 259 = .ok (.ldc 122, 2) := by decide +kernel
theorem dX5_command_261 : decode cX5_command 261 = .ok (.invokevirtual 115, 3) := by decide +kernel
theorem dX5_command_264 : decode cX5_command 264 = .ok (.aload_n 0, 1) := by decide +kernel
theorem dX5_command_265 : decode cX5_command 265 = .ok (.invokevirtual 139, 3) := by decide +kernel
theorem dX5_command_268 : decode cX5_command 268 = .ok (.goto 58, 3) := by decide +kernel
theorem dX5_command_271 : decode cX5_command 271 = .ok (.aload_n 0, 1) := by decide +kernel
theorem dX5_command_272 : decode cX5_command 272 = .ok (.invokevirtual 142, 3) := by decide +kernel
theorem dX5_command_275 : decode cX5_command 275 = .ok (.goto 51, 3) := by decide +kernel
theorem dX5_command_278 : decode cX5_command 278 = .ok (.aload_n 0, 1) := by decide +kernel
theorem dX5_command_279 : decode cX5_command 279 = .ok (.getfield 15, 3) := by decide +kernel
theorem dX5_command_282 : decode cX5_command 282 = .ok (.invokevirtual 145, 3) := by decide +kernel
theorem dX5_command_285 : decode cX5_command 285 = .ok (.goto 41, 3) := by decide +kernel
theorem dX5_command_288 : decode cX5_command 288 = .ok (.aload_n 0, 1) := by decide +kernel
theorem dX5_command_289 : decode cX5_command 289 = .ok (.getfield 22, 3) := by decide +kernel
theorem dX5_command_292 : decode cX5_command 292 = .ok (.invokevirtual 148, 3) := by decide +kernel
theorem dX5_command_295 : decode cX5_command 295 = .ok (.goto 31, 3) := by decide +kernel
theorem dX5_command_298 : decode cX5_command 298 = .ok (.aload_n 0, 1) := by decide +kernel
theorem dX5_command_299 : decode cX5_command 299 = .ok (.getfield 22, 3) := by decide +kernel
theorem dX5_command_302 : decode cX5_command 302 = .ok (.invokevirtual 151, 3) := by decide +kernel
theorem dX5_command_305 : decode cX5_command 305 = .ok (.goto 21, 3) := by decide +kernel
theorem dX5_command_308 : decode cX5_command 308 = .ok (.aload_n 0, 1) := by decide +kernel
theorem dX5_command_309 : decode cX5_command 309 = .ok (.getfield 15, 3) := by decide +kernel
theorem dX5_command_312 : decode cX5_command 312 = .ok (.aload_n 0, 1) := by decide +kernel
theorem dX5_command_313 : decode cX5_command 313 = .ok (.aload_n 0, 1) := by decide +kernel
theorem dX5_command_314 : decode cX5_command 314 = .ok (.getfield 48, 3) := by decide +kernel
theorem dX5_command_317 : decode cX5_command 317 = .ok (.invokevirtual 154, 3) := by decide +kernel
theorem dX5_command_320 : decode cX5_command 320 = .ok (.invokevirtual 158, 3) := by decide +kernel
theorem dX5_command_323 : decode cX5_command 323 = .ok (.goto 3, 3) := by decide +kernel
theorem dX5_command_326 : decode cX5_command 326 = .ok (.return_, 1) := by decide +kernel
theorem dX5_sayCharacter_0 : decode cX5_sayCharacter 0 = .ok (.aload_n 0, 1) := by decide +kernel
theorem dX5_sayCharacter_1 : decode cX5_sayCharacter 1 = .ok (.getfield 38, 3) := by decide +kernel
theorem dX5_sayCharacter_4 : decode cX5_sayCharacter 4 = .ok (.invokevirtual 63, 3) := by decide +kernel
theorem dX5_sayCharacter_7 : decode cX5_sayCharacter 7 = .ok (.iload_n 1, 1) := by decide +kernel
theorem dX5_sayCharacter_8 : decode cX5_sayCharacter 8 = .ok (.bipush 32, 2) := by decide +kernel
theorem dX5_sayCharacter_10 : decode cX5_sayCharacter 10 = .ok (.if_icmp .ne 16, 3) := by decide +kernel
theorem dX5_sayCharacter_13 : decode cX5_sayCharacter 13 = .ok (.aload_n 0, 1) := by decide +kernel
theorem dX5_sayCharacter_14 : decode cX5_sayCharacter 14 = .ok (.getfield 38, 3) := by decide +kernel
theorem dX5_sayCharacter_17 : decode cX5_sayCharacter 17 = .ok (.ldc_w 263, 3) := by decide +kernel
theorem dX5_sayCharacter_20 : decode cX5_sayCharacter 20 = .ok (.invokevirtual 88, 3) := by decide +kernel
theorem dX5_sayCharacter_23 : decode cX5_sayCharacter 23 = .ok (.goto 11, 3) := by decide +kernel
theorem dX5_sayCharacter_26 : decode cX5_sayCharacter 26 = .ok (.aload_n 0, 1) := by decide +kernel
theorem dX5_sayCharacter_27 : decode cX5_sayCharacter 27 = .ok (.getfield 38, 3) := by decide +kernel
theorem dX5_sayCharacter_30 : decode cX5_sayCharacter 30 = .ok (.iload_n 1, 1) := by decide +kernel
theorem dX5_sayCharacter_31 : decode cX5_sayCharacter 31 = .ok (.invokevirtual 248, 3) := by decide +kernel
theorem dX5_sayCharacter_34 : decode cX5_sayCharacter 34 = .ok (.aload_n 0, 1) := by decide +kernel
theorem dX5_sayCharacter_35 : decode cX5_sayCharacter 35 = .ok (.getfield 15, 3) := by decide +kernel
theorem dX5_sayCharacter_38 : decode cX5_sayCharacter 38 = .ok (.aload_n 0, 1) := by decide +kernel
theorem dX5_sayCharacter_39 : decode cX5_sayCharacter 39 = .ok (.getfield 38, 3) := by decide +kernel
theorem dX5_sayCharacter_42 : decode cX5_sayCharacter 42 = .ok (.invokevirtual 158, 3) := by decide +kernel
theorem dX5_sayCharacter_45 : decode cX5_sayCharacter 45 = .ok (.return_, 1) := by decide +kernel
theorem dX5_takeBack_0 : decode cX5_takeBack 0 = .ok (.aload_n 0, 1) := by decide +kernel
theorem dX5_takeBack_1 : decode cX5_takeBack 1 = .ok (.getfield 48, 3) := by decide +kernel
theorem dX5_takeBack_4 : decode cX5_takeBack 4 = .ok (.getfield 242, 3) := by decide +kernel
theorem dX5_takeBack_7 : decode cX5_takeBack 7 = .ok (.invokevirtual 245, 3) := by decide +kernel
theorem dX5_takeBack_10 : decode cX5_takeBack 10 = .ok (.istore_n 1, 1) := by decide +kernel
theorem dX5_takeBack_11 : decode cX5_takeBack 11 = .ok (.iload_n 1, 1) := by decide +kernel
theorem dX5_takeBack_12 : decode cX5_takeBack 12 = .ok (.ifCond .ne 10, 3) := by decide +kernel
theorem dX5_takeBack_15 : decode cX5_takeBack 15 = .ok (.aload_n 0, 1) := by decide +kernel
theorem dX5_takeBack_16 : decode cX5_takeBack 16 = .ok (.ldc 122, 2) := by decide +kernel
theorem dX5_takeBack_18 : decode cX5_takeBack 18 = .ok (.invokevirtual 161, 3) := by decide +kernel
theorem dX5_takeBack_21 : decode cX5_takeBack 21 = .ok (.return_, 1) := by decide +kernel
theorem dX5_takeBack_22 : decode cX5_takeBack 22 = .ok (.aload_n 0, 1) := by decide +kernel
theorem dX5_takeBack_23 : decode cX5_takeBack 23 = .ok (.getfield 48, 3) := by decide +kernel
theorem dX5_takeBack_26 : decode cX5_takeBack 26 = .ok (.getfield 242, 3) := by decide +kernel
theorem dX5_takeBack_29 : decode cX5_takeBack 29 = .ok (.iload_n 1, 1) := by decide +kernel
theorem dX5_takeBack_30 : decode cX5_takeBack 30 = .ok (.iconst 1, 1) := by decide +kernel
theorem dX5_takeBack_31 : decode cX5_takeBack 31 = .ok (.isub, 1) := by decide +kernel
theorem dX5_takeBack_32 : decode cX5_takeBack 32 = .ok (.invokevirtual 257, 3) := by decide +kernel
theorem dX5_takeBack_35 : decode cX5_takeBack 35 = .ok (.istore_n 2, 1) := by decide +kernel
theorem dX5_takeBack_36 : decode cX5_takeBack 36 = .ok (.aload_n 0, 1) := by decide +kernel
theorem dX5_takeBack_37 : decode cX5_takeBack 37 = .ok (.getfield 48, 3) := by decide +kernel
theorem dX5_takeBack_40 : decode cX5_takeBack 40 = .ok (.getfield 242, 3) := by decide +kernel
theorem dX5_takeBack_43 : decode cX5_takeBack 43 = .ok (.invokevirtual 260, 3) := by decide +kernel
theorem dX5_takeBack_46 : decode cX5_takeBack 46 = .ok (.aload_n 0, 1) := by decide +kernel
theorem dX5_takeBack_47 : decode cX5_takeBack 47 = .ok (.iload_n 2, 1) := by decide +kernel
theorem dX5_takeBack_48 : decode cX5_takeBack 48 = .ok (.invokevirtual 254, 3) := by decide +kernel
theorem dX5_takeBack_51 : decode cX5_takeBack 51 = .ok (.return_, 1) := by decide +kernel
abbrev mX5_act : gM := (yX5_act, cX5_act, 1, (Option.none : Option FieldType), [])
theorem caX5_act : cal mX5_act 0 := ⟨xw 705 (by decide +kernel) rfl, xw 36 (by decide +kernel) rfl, by decide, by decide +kernel⟩
theorem cvX5_act : calV mX5_act := ⟨xw 704 (by decide +kernel) rfl, xw 13 (by decide +kernel) rfl⟩
abbrev mX5_command : gM := (yX5_command, cX5_command, 2, (Option.none : Option FieldType), [])
theorem caX5_command : cal mX5_command 1 := ⟨xw 566 (by decide +kernel) rfl, xw 36 (by decide +kernel) rfl, by decide, by decide +kernel⟩
theorem cvX5_command : calV mX5_command := ⟨xw 565 (by decide +kernel) rfl, xw 1 (by decide +kernel) rfl⟩
abbrev mX5_sayCharacter : gM := (yX5_sayCharacter, cX5_sayCharacter, 2, (Option.none : Option FieldType), [])
theorem caX5_sayCharacter : cal mX5_sayCharacter 1 := ⟨xw 759 (by decide +kernel) rfl, xw 36 (by decide +kernel) rfl, by decide, by decide +kernel⟩
theorem cvX5_sayCharacter : calV mX5_sayCharacter := ⟨xw 758 (by decide +kernel) rfl, xw 16 (by decide +kernel) rfl⟩
abbrev mX5_takeBack : gM := (yX5_takeBack, cX5_takeBack, 3, (Option.none : Option FieldType), [])
theorem caX5_takeBack : cal mX5_takeBack 0 := ⟨xw 749 (by decide +kernel) rfl, xw 36 (by decide +kernel) rfl, by decide, by decide +kernel⟩
theorem cvX5_takeBack : calV mX5_takeBack := ⟨xw 748 (by decide +kernel) rfl, xw 15 (by decide +kernel) rfl⟩
theorem lkX5_139 : Cond.methodLink RX5 139 yX5_takeFocus ∈ XW := xw 697 (by decide +kernel) rfl
theorem flX5_213 : fl RX5 213 1 9 := ⟨by decide, by decide, xw 117 (by decide +kernel) rfl⟩
theorem flX5_217 : fl RX5 217 1 8 := ⟨by decide, by decide, xw 116 (by decide +kernel) rfl⟩
theorem lkX5_224 : Cond.methodLink RX5 224 yX8_begin ∈ XW := xw 709 (by decide +kernel) rfl
theorem lkX5_106 : Cond.methodLink RX5 106 yX7_placeInOrder ∈ XW := xw 567 (by decide +kernel) rfl
theorem lkX5_110 : Cond.methodLink RX5 110 yX7_inOrder ∈ XW := xw 575 (by decide +kernel) rfl
theorem lkX5_115 : Cond.methodLink RX5 115 yX5_goTo ∈ XW := xw 577 (by decide +kernel) rfl
theorem lkX5_128 : Cond.methodLink RX5 128 yX5_cellInOtherRow ∈ XW := xw 680 (by decide +kernel) rfl
theorem lkX5_131 : Cond.methodLink RX5 131 yX5_isInRow ∈ XW := xw 684 (by decide +kernel) rfl
theorem lkX5_148 : Cond.methodLink RX5 148 yX3_goLeft ∈ XW := xw 726 (by decide +kernel) rfl
theorem lkX5_154 : Cond.methodLink RX5 154 yX5_wordsOf ∈ XW := xw 734 (by decide +kernel) rfl
theorem lkX5_135 : Cond.methodLink RX5 135 yX7_nextForFocus ∈ XW := xw 688 (by decide +kernel) rfl
theorem lkX5_124 : Cond.methodLink RX5 124 yX5_firstShownChild ∈ XW := xw 671 (by decide +kernel) rfl
theorem lkX5_151 : Cond.methodLink RX5 151 yX3_goRight ∈ XW := xw 730 (by decide +kernel) rfl
theorem lkX5_145 : Cond.methodLink RX5 145 yX9_hush ∈ XW := xw 714 (by decide +kernel) rfl
theorem lkX5_142 : Cond.methodLink RX5 142 yX5_act ∈ XW := xw 702 (by decide +kernel) rfl
theorem lkX5_248 : Cond.methodLink RX5 248 yX1_put ∈ XW := xw 761 (by decide +kernel) rfl
theorem flX5_242 : fl RX5 242 1 6 := ⟨by decide, by decide, xw 109 (by decide +kernel) rfl⟩
theorem lkX5_245 : Cond.methodLink RX5 245 yX1_size ∈ XW := xw 750 (by decide +kernel) rfl
theorem lkX5_257 : Cond.methodLink RX5 257 yX1_at ∈ XW := xw 751 (by decide +kernel) rfl
theorem lkX5_260 : Cond.methodLink RX5 260 yX1_takeLast ∈ XW := xw 752 (by decide +kernel) rfl
theorem lkX5_254 : Cond.methodLink RX5 254 yX5_sayCharacter ∈ XW := xw 756 (by decide +kernel) rfl
/-! BrailleDesk$Reader.act -/
theorem tX5_act {G : gG} (a0 : Nat) (h : hp) (Q : hQ) (hF : okB (fX5_act a0 h) (pH gU Q)) : gS G mX5_act 6 0 0 [sr (some a0)] h Q := by
  delta fX5_act at hF
  refine gS_at [some (sr (some a0))] pl_X5 rfl (Nat.le_of_ble_eq_true rfl) rfl ?_
  refine v_aload_n (pc := 0) (i := 0) dX5_act_0 rfl rfl ?_
  refine ch_V (pc := 1) gU (as := []) (st := []) (ci := 4) (N := mX5_takeFocus) (k := 0) (n := 0) (k1 := 0) (n1 := 0) dX5_act_1 lkX5_139 caX5_takeFocus cvX5_takeFocus rfl (by decide) rfl (fun b Q1 hq => tX5_takeFocus b h Q1 hq) ⟨by decide, by decide⟩ (Nat.le_of_ble_eq_true rfl) rfl hF (fun x1 h2 hF => ?_)
  show gV G mX5_act 6 Q 4 [some (sr (some a0))] [] (0) (0) h2
  refine v_aload_n (pc := 4) (i := 0) dX5_act_4 rfl rfl ?_
  refine s_getR (pc := 5) dX5_act_5 flX5_48 rfl hF (fun x3 hF => ?_)
  refine s_getI (pc := 8) dX5_act_8 flX5_172 rfl hF (fun x4 hF => ?_)
  by_cases hc2 : x4 = (2 : Int32)
  · replace hF := (okB_if hF).1 hc2
    refine v_tableIn (pc := 11) 36 dX5_act_11 (by rw [hc2]; first | done | decide) (by rw [hc2]; first | done | decide) (by rw [hc2]; first | done | rfl) rfl ?_
    refine v_aload_n (pc := 36) (i := 0) dX5_act_36 rfl rfl ?_
    refine s_getR (pc := 37) dX5_act_37 flX5_48 rfl hF (fun x5 hF => ?_)
    refine v_dup (pc := 40) dX5_act_40 rfl ?_
    refine s_getI (pc := 41) dX5_act_41 flX5_213 rfl hF (fun x6 hF => ?_)
    refine v_iconst (pc := 44) (v := (1 : Int32)) dX5_act_44 rfl ?_
    refine v_iadd (pc := 45) dX5_act_45 ?_
    refine s_putI (pc := 46) dX5_act_46 flX5_213 (Or.inl rfl) rfl hF (fun h7 hF => ?_)
    refine v_aload_n (pc := 49) (i := 0) dX5_act_49 rfl rfl ?_
    refine v_ldcS (pc := 50) 32 dX5_act_50 rfl ?_
    refine ch_V (pc := 52) gU (as := [sr (some (ga G 32))]) (st := []) (ci := 4) (N := mX5_say) (k := 0) (n := 0) (k1 := 0) (n1 := 0) dX5_act_52 lkX5_161 caX5_say cvX5_say rfl (by decide) rfl (fun b Q1 hq => tX5_say b 32 h7 Q1 hq) ⟨by decide, by decide⟩ (Nat.le_of_ble_eq_true rfl) rfl hF (fun x8 h9 hF => ?_)
    show gV G mX5_act 6 Q 55 [some (sr (some a0))] [] (0) (0) h9
    refine v_goto (pc := 55) 126 dX5_act_55 rfl ?_
    exact v_ret (pc := 126) dX5_act_126 rfl (okr hF fun q => q)
  replace hF := (okB_if hF).2 hc2
  by_cases hc3 : x4 = (3 : Int32)
  · replace hF := (okB_if hF).1 hc3
    refine v_tableIn (pc := 11) 58 dX5_act_11 (by rw [hc3]; first | done | decide) (by rw [hc3]; first | done | decide) (by rw [hc3]; first | done | rfl) rfl ?_
    refine v_aload_n (pc := 58) (i := 0) dX5_act_58 rfl rfl ?_
    refine s_getR (pc := 59) dX5_act_59 flX5_48 rfl hF (fun x10 hF => ?_)
    refine v_aload_n (pc := 62) (i := 0) dX5_act_62 rfl rfl ?_
    refine s_getR (pc := 63) dX5_act_63 flX5_48 rfl hF (fun x11 hF => ?_)
    refine s_getI (pc := 66) dX5_act_66 flX5_217 rfl hF (fun x12 hF => ?_)
    refine mg (X := fun q13 => gV G mX5_act 6 Q 77 [some (sr (some a0))] [si q13, sr x10] (0) (0) h2) hF (fun _ hj14 hF => ?_) (fun q13 hF => ?_)
    · refine v_if_ne (pc := 69) 76 dX5_act_69 rfl (fun hc => ?_) (fun hc => ?_)
      · replace hF := (okB_if hF).2 hc
        refine v_iconst (pc := 76) (v := (0 : Int32)) dX5_act_76 rfl ?_
        exact v_lle [some (sr (some a0))] ⟨rfl, trivial⟩ (hj14 (0 : Int32) (okB_some hF))
      replace hF := (okB_if hF).1 hc
      refine v_iconst (pc := 72) (v := (1 : Int32)) dX5_act_72 rfl ?_
      refine v_goto (pc := 73) 77 dX5_act_73 rfl ?_
      exact v_lle [some (sr (some a0))] ⟨rfl, trivial⟩ (hj14 (1 : Int32) (okB_some hF))
    refine s_putZ (pc := 77) dX5_act_77 flX5_217 (Or.inl rfl) rfl hF (fun h15 hF => ?_)
    refine v_aload_n (pc := 80) (i := 0) dX5_act_80 rfl rfl ?_
    refine v_aload_n (pc := 81) (i := 0) dX5_act_81 rfl rfl ?_
    refine s_getR (pc := 82) dX5_act_82 flX5_48 rfl hF (fun x16 hF => ?_)
    refine s_getI (pc := 85) dX5_act_85 flX5_217 rfl hF (fun x17 hF => ?_)
    refine mg (X := fun q18 => gV G mX5_act 6 Q 98 [none] [sr (some (ga G q18)), sr (some a0)] (0) (0) h15) hF (fun _ hj19 hF => ?_) (fun q18 hF => ?_)
    · refine v_if_eq (pc := 88) 96 dX5_act_88 rfl (fun hc => ?_) (fun hc => ?_)
      · replace hF := (okB_if hF).1 hc
        refine v_ldcS (pc := 96) 34 dX5_act_96 rfl ?_
        exact v_lle [none] trivial (hj19 34 (okB_some hF))
      replace hF := (okB_if hF).2 hc
      refine v_ldcS (pc := 91) 33 dX5_act_91 rfl ?_
      refine v_goto (pc := 93) 98 dX5_act_93 rfl ?_
      exact v_lle [none] trivial (hj19 33 (okB_some hF))
    refine ch_V (pc := 98) gU (as := [sr (some (ga G q18))]) (st := []) (ci := 4) (N := mX5_say) (k := 0) (n := 0) (k1 := 0) (n1 := 0) dX5_act_98 lkX5_161 caX5_say cvX5_say rfl (by decide) rfl (fun b Q1 hq => tX5_say b q18 h15 Q1 hq) ⟨by decide, by decide⟩ (Nat.le_of_ble_eq_true rfl) rfl hF (fun x20 h21 hF => ?_)
    show gV G mX5_act 6 Q 101 [none] [] (0) (0) h21
    refine v_goto (pc := 101) 126 dX5_act_101 rfl ?_
    exact v_ret (pc := 126) dX5_act_126 rfl (okr hF fun q => q)
  replace hF := (okB_if hF).2 hc3
  by_cases hc4 : x4 = (4 : Int32)
  · replace hF := (okB_if hF).1 hc4
    refine v_tableIn (pc := 11) 104 dX5_act_11 (by rw [hc4]; first | done | decide) (by rw [hc4]; first | done | decide) (by rw [hc4]; first | done | rfl) rfl ?_
    refine v_aload_n (pc := 104) (i := 0) dX5_act_104 rfl rfl ?_
    refine s_getR (pc := 105) dX5_act_105 flX5_29 rfl hF (fun x22 hF => ?_)
    refine ch_V (pc := 108) gU (as := []) (st := []) (ci := 7) (N := mX8_begin) (k := 0) (n := 0) (k1 := 0) (n1 := 0) dX5_act_108 lkX5_224 caX8_begin cvX8_begin rfl (by decide) rfl (fun b Q1 hq => tX8_begin b h2 Q1 hq) ⟨by decide, by decide⟩ (Nat.le_of_ble_eq_true rfl) rfl hF (fun x23 h24 hF => ?_)
    show gV G mX5_act 6 Q 111 [some (sr (some a0))] [] (0) (0) h24
    refine v_aload_n (pc := 111) (i := 0) dX5_act_111 rfl rfl ?_
    refine v_ldcS (pc := 112) 35 dX5_act_112 rfl ?_
    refine ch_V (pc := 114) gU (as := [sr (some (ga G 35))]) (st := []) (ci := 4) (N := mX5_say) (k := 0) (n := 0) (k1 := 0) (n1 := 0) dX5_act_114 lkX5_161 caX5_say cvX5_say rfl (by decide) rfl (fun b Q1 hq => tX5_say b 35 h24 Q1 hq) ⟨by decide, by decide⟩ (Nat.le_of_ble_eq_true rfl) rfl hF (fun x25 h26 hF => ?_)
    show gV G mX5_act 6 Q 117 [some (sr (some a0))] [] (0) (0) h26
    refine v_goto (pc := 117) 126 dX5_act_117 rfl ?_
    exact v_ret (pc := 126) dX5_act_126 rfl (okr hF fun q => q)
  replace hF := (okB_if hF).2 hc4
  refine v_tableD (pc := 11) 120 dX5_act_11 (fun i hi hx => ?_) rfl ?_
  · have hi : i = 0 ∨ i = 1 ∨ i = 2 := by omega
    rcases hi with rfl | rfl | rfl
    · exact absurd hx (fun e => hc2 (Int32.toInt_inj.mp (e.trans (by decide))))
    · exact absurd hx (fun e => hc3 (Int32.toInt_inj.mp (e.trans (by decide))))
    · exact absurd hx (fun e => hc4 (Int32.toInt_inj.mp (e.trans (by decide))))
  refine v_aload_n (pc := 120) (i := 0) dX5_act_120 rfl rfl ?_
  refine v_ldcS (pc := 121) 31 dX5_act_121 rfl ?_
  refine ch_V (pc := 123) gU (as := [sr (some (ga G 31))]) (st := []) (ci := 4) (N := mX5_say) (k := 0) (n := 0) (k1 := 0) (n1 := 0) dX5_act_123 lkX5_161 caX5_say cvX5_say rfl (by decide) rfl (fun b Q1 hq => tX5_say b 31 h2 Q1 hq) ⟨by decide, by decide⟩ (Nat.le_of_ble_eq_true rfl) rfl hF (fun x27 h28 hF => ?_)
  show gV G mX5_act 6 Q 126 [some (sr (some a0))] [] (0) (0) h28
  exact v_ret (pc := 126) dX5_act_126 rfl (okr hF fun q => q)
/-! BrailleDesk$Reader.command -/
theorem tX5_command {G : gG} (a0 : Nat) (a1 : Int32) (h : hp) (Q : hQ) (hF : okB (fX5_command a0 a1 h) (pH gU Q)) : gS G mX5_command 7 0 0 [sr (some a0), si a1] h Q := by
  delta fX5_command at hF
  refine gS_at [some (sr (some a0)), some (si a1)] pl_X5 rfl (Nat.le_of_ble_eq_true rfl) rfl ?_
  refine v_iload_n (pc := 0) (i := 1) dX5_command_0 rfl rfl ?_
  by_cases hc1 : a1 = (1 : Int32)
  · replace hF := (okB_if hF).1 hc1
    refine v_lookup (pc := 1) 108 dX5_command_1 (by decide) (by rw [hc1]; first | done | decide) rfl ?_
    refine v_aload_n (pc := 108) (i := 0) dX5_command_108 rfl rfl ?_
    refine v_aload_n (pc := 109) (i := 0) dX5_command_109 rfl rfl ?_
    refine s_getR (pc := 110) dX5_command_110 flX5_9 rfl hF (fun x1 hF => ?_)
    refine v_aload_n (pc := 113) (i := 0) dX5_command_113 rfl rfl ?_
    refine s_getR (pc := 114) dX5_command_114 flX5_9 rfl hF (fun x2 hF => ?_)
    refine v_aload_n (pc := 117) (i := 0) dX5_command_117 rfl rfl ?_
    refine s_getR (pc := 118) dX5_command_118 flX5_48 rfl hF (fun x3 hF => ?_)
    refine cp_V (pc := 121) gI (as := [sr x3]) (st := [sr x1, sr (some a0)]) (ci := 6) (N := mX7_placeInOrder) (k := 0) (n := 0) (k1 := 0) (n1 := 0) dX5_command_121 lkX5_106 caX7_placeInOrder cvX7_placeInOrder rfl (by decide) rfl (fun b Q1 hq => tX7_placeInOrder b x3 h Q1 hq) ⟨by decide, by decide⟩ (Nat.le_of_ble_eq_true rfl) rfl hF (fun x4 hF => ?_)
    show gV G mX5_command 7 Q 124 [some (sr (some a0)), some (si a1)] [si x4, sr x1, sr (some a0)] (0) (0) h
    refine v_iconst (pc := 124) (v := (1 : Int32)) dX5_command_124 rfl ?_
    refine v_isub (pc := 125) dX5_command_125 ?_
    refine cp_V (pc := 126) gR (as := [si (x4 - (1 : Int32))]) (st := [sr (some a0)]) (ci := 6) (N := mX7_inOrder) (k := 0) (n := 0) (k1 := 0) (n1 := 0) dX5_command_126 lkX5_110 caX7_inOrder cvX7_inOrder rfl (by decide) rfl (fun b Q1 hq => tX7_inOrder b (x4 - (1 : Int32)) h Q1 hq) ⟨by decide, by decide⟩ (Nat.le_of_ble_eq_true rfl) rfl hF (fun x5 hF => ?_)
    show gV G mX5_command 7 Q 129 [some (sr (some a0)), some (si a1)] [sr x5, sr (some a0)] (0) (0) h
    refine v_ldcS (pc := 129) 30 dX5_command_129 rfl ?_
    refine ch_V (pc := 131) gU (as := [sr x5, sr (some (ga G 30))]) (st := []) (ci := 4) (N := mX5_goTo) (k := 0) (n := 0) (k1 := 0) (n1 := 0) dX5_command_131 lkX5_115 caX5_goTo cvX5_goTo rfl (by decide) rfl (fun b Q1 hq => tX5_goTo b x5 30 h Q1 hq) ⟨by decide, by decide⟩ (Nat.le_of_ble_eq_true rfl) rfl hF (fun x6 h7 hF => ?_)
    show gV G mX5_command 7 Q 134 [some (sr (some a0)), some (si a1)] [] (0) (0) h7
    refine v_goto (pc := 134) 326 dX5_command_134 rfl ?_
    exact v_ret (pc := 326) dX5_command_326 rfl (okr hF fun q => q)
  replace hF := (okB_if hF).2 hc1
  by_cases hc2 : a1 = (2 : Int32)
  · replace hF := (okB_if hF).1 hc2
    refine v_lookup (pc := 1) 195 dX5_command_1 (by decide) (by rw [hc2]; first | done | decide) rfl ?_
    refine v_aload_n (pc := 195) (i := 0) dX5_command_195 rfl rfl ?_
    refine v_aload_n (pc := 196) (i := 0) dX5_command_196 rfl rfl ?_
    refine v_iconst (pc := 197) (v := (-1 : Int32)) dX5_command_197 rfl ?_
    refine cp_V (pc := 198) gR (as := [si (-1 : Int32)]) (st := [sr (some a0)]) (ci := 4) (N := mX5_cellInOtherRow) (k := 0) (n := 0) (k1 := 0) (n1 := 0) dX5_command_198 lkX5_128 caX5_cellInOtherRow cvX5_cellInOtherRow rfl (by decide) rfl (fun b Q1 hq => tX5_cellInOtherRow b (-1 : Int32) h Q1 hq) ⟨by decide, by decide⟩ (Nat.le_of_ble_eq_true rfl) rfl hF (fun x8 hF => ?_)
    show gV G mX5_command 7 Q 201 [some (sr (some a0)), some (si a1)] [sr x8, sr (some a0)] (0) (0) h
    refine v_aload_n (pc := 201) (i := 0) dX5_command_201 rfl rfl ?_
    refine cp_V (pc := 202) gI (as := []) (st := [sr x8, sr (some a0)]) (ci := 4) (N := mX5_isInRow) (k := 0) (n := 0) (k1 := 0) (n1 := 0) dX5_command_202 lkX5_131 caX5_isInRow cvX5_isInRow rfl (by decide) rfl (fun b Q1 hq => tX5_isInRow b h Q1 hq) ⟨by decide, by decide⟩ (Nat.le_of_ble_eq_true rfl) rfl hF (fun x9 hF => ?_)
    show gV G mX5_command 7 Q 205 [some (sr (some a0)), some (si a1)] [si x9, sr x8, sr (some a0)] (0) (0) h
    refine mg (X := fun q10 => gV G mX5_command 7 Q 215 [none, none] [sr (some (ga G q10)), sr x8, sr (some a0)] (0) (0) h) hF (fun _ hj11 hF => ?_) (fun q10 hF => ?_)
    · refine v_if_eq (pc := 205) 213 dX5_command_205 rfl (fun hc => ?_) (fun hc => ?_)
      · replace hF := (okB_if hF).1 hc
        refine v_ldcS (pc := 213) 31 dX5_command_213 rfl ?_
        exact v_lle [none, none] trivial (hj11 31 (okB_some hF))
      replace hF := (okB_if hF).2 hc
      refine v_ldcS (pc := 208) 30 dX5_command_208 rfl ?_
      refine v_goto (pc := 210) 215 dX5_command_210 rfl ?_
      exact v_lle [none, none] trivial (hj11 30 (okB_some hF))
    refine ch_V (pc := 215) gU (as := [sr x8, sr (some (ga G q10))]) (st := []) (ci := 4) (N := mX5_goTo) (k := 0) (n := 0) (k1 := 0) (n1 := 0) dX5_command_215 lkX5_115 caX5_goTo cvX5_goTo rfl (by decide) rfl (fun b Q1 hq => tX5_goTo b x8 q10 h Q1 hq) ⟨by decide, by decide⟩ (Nat.le_of_ble_eq_true rfl) rfl hF (fun x12 h13 hF => ?_)
    show gV G mX5_command 7 Q 218 [none, none] [] (0) (0) h13
    refine v_goto (pc := 218) 326 dX5_command_218 rfl ?_
    exact v_ret (pc := 326) dX5_command_326 rfl (okr hF fun q => q)
  replace hF := (okB_if hF).2 hc2
  by_cases hc4 : a1 = (4 : Int32)
  · replace hF := (okB_if hF).1 hc4
    refine v_lookup (pc := 1) 166 dX5_command_1 (by decide) (by rw [hc4]; first | done | decide) rfl ?_
    refine v_aload_n (pc := 166) (i := 0) dX5_command_166 rfl rfl ?_
    refine v_aload_n (pc := 167) (i := 0) dX5_command_167 rfl rfl ?_
    refine s_getR (pc := 168) dX5_command_168 flX5_48 rfl hF (fun x14 hF => ?_)
    refine s_getR (pc := 171) dX5_command_171 flX5_119 rfl hF (fun x15 hF => ?_)
    refine v_ldcS (pc := 174) 31 dX5_command_174 rfl ?_
    refine ch_V (pc := 176) gU (as := [sr x15, sr (some (ga G 31))]) (st := []) (ci := 4) (N := mX5_goTo) (k := 0) (n := 0) (k1 := 0) (n1 := 0) dX5_command_176 lkX5_115 caX5_goTo cvX5_goTo rfl (by decide) rfl (fun b Q1 hq => tX5_goTo b x15 31 h Q1 hq) ⟨by decide, by decide⟩ (Nat.le_of_ble_eq_true rfl) rfl hF (fun x16 h17 hF => ?_)
    show gV G mX5_command 7 Q 179 [some (sr (some a0)), some (si a1)] [] (0) (0) h17
    refine v_goto (pc := 179) 326 dX5_command_179 rfl ?_
    exact v_ret (pc := 326) dX5_command_326 rfl (okr hF fun q => q)
  replace hF := (okB_if hF).2 hc4
  by_cases hc7 : a1 = (7 : Int32)
  · replace hF := (okB_if hF).1 hc7
    refine v_lookup (pc := 1) 288 dX5_command_1 (by decide) (by rw [hc7]; first | done | decide) rfl ?_
    refine v_aload_n (pc := 288) (i := 0) dX5_command_288 rfl rfl ?_
    refine s_getR (pc := 289) dX5_command_289 flX5_22 rfl hF (fun x18 hF => ?_)
    refine ch_V (pc := 292) gU (as := []) (st := []) (ci := 2) (N := mX3_goLeft) (k := 0) (n := 0) (k1 := 0) (n1 := 0) dX5_command_292 lkX5_148 caX3_goLeft cvX3_goLeft rfl (by decide) rfl (fun b Q1 hq => tX3_goLeft b h Q1 hq) ⟨by decide, by decide⟩ (Nat.le_of_ble_eq_true rfl) rfl hF (fun x19 h20 hF => ?_)
    show gV G mX5_command 7 Q 295 [some (sr (some a0)), some (si a1)] [] (0) (0) h20
    refine v_goto (pc := 295) 326 dX5_command_295 rfl ?_
    exact v_ret (pc := 326) dX5_command_326 rfl (okr hF fun q => q)
  replace hF := (okB_if hF).2 hc7
  by_cases hc8 : a1 = (8 : Int32)
  · replace hF := (okB_if hF).1 hc8
    refine v_lookup (pc := 1) 137 dX5_command_1 (by decide) (by rw [hc8]; first | done | decide) rfl ?_
    refine v_aload_n (pc := 137) (i := 0) dX5_command_137 rfl rfl ?_
    refine v_aload_n (pc := 138) (i := 0) dX5_command_138 rfl rfl ?_
    refine s_getR (pc := 139) dX5_command_139 flX5_9 rfl hF (fun x21 hF => ?_)
    refine v_aload_n (pc := 142) (i := 0) dX5_command_142 rfl rfl ?_
    refine s_getR (pc := 143) dX5_command_143 flX5_9 rfl hF (fun x22 hF => ?_)
    refine v_aload_n (pc := 146) (i := 0) dX5_command_146 rfl rfl ?_
    refine s_getR (pc := 147) dX5_command_147 flX5_48 rfl hF (fun x23 hF => ?_)
    refine cp_V (pc := 150) gI (as := [sr x23]) (st := [sr x21, sr (some a0)]) (ci := 6) (N := mX7_placeInOrder) (k := 0) (n := 0) (k1 := 0) (n1 := 0) dX5_command_150 lkX5_106 caX7_placeInOrder cvX7_placeInOrder rfl (by decide) rfl (fun b Q1 hq => tX7_placeInOrder b x23 h Q1 hq) ⟨by decide, by decide⟩ (Nat.le_of_ble_eq_true rfl) rfl hF (fun x24 hF => ?_)
    show gV G mX5_command 7 Q 153 [some (sr (some a0)), some (si a1)] [si x24, sr x21, sr (some a0)] (0) (0) h
    refine v_iconst (pc := 153) (v := (1 : Int32)) dX5_command_153 rfl ?_
    refine v_iadd (pc := 154) dX5_command_154 ?_
    refine cp_V (pc := 155) gR (as := [si (x24 + (1 : Int32))]) (st := [sr (some a0)]) (ci := 6) (N := mX7_inOrder) (k := 0) (n := 0) (k1 := 0) (n1 := 0) dX5_command_155 lkX5_110 caX7_inOrder cvX7_inOrder rfl (by decide) rfl (fun b Q1 hq => tX7_inOrder b (x24 + (1 : Int32)) h Q1 hq) ⟨by decide, by decide⟩ (Nat.le_of_ble_eq_true rfl) rfl hF (fun x25 hF => ?_)
    show gV G mX5_command 7 Q 158 [some (sr (some a0)), some (si a1)] [sr x25, sr (some a0)] (0) (0) h
    refine v_ldcS (pc := 158) 30 dX5_command_158 rfl ?_
    refine ch_V (pc := 160) gU (as := [sr x25, sr (some (ga G 30))]) (st := []) (ci := 4) (N := mX5_goTo) (k := 0) (n := 0) (k1 := 0) (n1 := 0) dX5_command_160 lkX5_115 caX5_goTo cvX5_goTo rfl (by decide) rfl (fun b Q1 hq => tX5_goTo b x25 30 h Q1 hq) ⟨by decide, by decide⟩ (Nat.le_of_ble_eq_true rfl) rfl hF (fun x26 h27 hF => ?_)
    show gV G mX5_command 7 Q 163 [some (sr (some a0)), some (si a1)] [] (0) (0) h27
    refine v_goto (pc := 163) 326 dX5_command_163 rfl ?_
    exact v_ret (pc := 326) dX5_command_326 rfl (okr hF fun q => q)
  replace hF := (okB_if hF).2 hc8
  by_cases hc16 : a1 = (16 : Int32)
  · replace hF := (okB_if hF).1 hc16
    refine v_lookup (pc := 1) 221 dX5_command_1 (by decide) (by rw [hc16]; first | done | decide) rfl ?_
    refine v_aload_n (pc := 221) (i := 0) dX5_command_221 rfl rfl ?_
    refine v_aload_n (pc := 222) (i := 0) dX5_command_222 rfl rfl ?_
    refine v_iconst (pc := 223) (v := (1 : Int32)) dX5_command_223 rfl ?_
    refine cp_V (pc := 224) gR (as := [si (1 : Int32)]) (st := [sr (some a0)]) (ci := 4) (N := mX5_cellInOtherRow) (k := 0) (n := 0) (k1 := 0) (n1 := 0) dX5_command_224 lkX5_128 caX5_cellInOtherRow cvX5_cellInOtherRow rfl (by decide) rfl (fun b Q1 hq => tX5_cellInOtherRow b (1 : Int32) h Q1 hq) ⟨by decide, by decide⟩ (Nat.le_of_ble_eq_true rfl) rfl hF (fun x28 hF => ?_)
    show gV G mX5_command 7 Q 227 [some (sr (some a0)), some (si a1)] [sr x28, sr (some a0)] (0) (0) h
    refine v_aload_n (pc := 227) (i := 0) dX5_command_227 rfl rfl ?_
    refine cp_V (pc := 228) gI (as := []) (st := [sr x28, sr (some a0)]) (ci := 4) (N := mX5_isInRow) (k := 0) (n := 0) (k1 := 0) (n1 := 0) dX5_command_228 lkX5_131 caX5_isInRow cvX5_isInRow rfl (by decide) rfl (fun b Q1 hq => tX5_isInRow b h Q1 hq) ⟨by decide, by decide⟩ (Nat.le_of_ble_eq_true rfl) rfl hF (fun x29 hF => ?_)
    show gV G mX5_command 7 Q 231 [some (sr (some a0)), some (si a1)] [si x29, sr x28, sr (some a0)] (0) (0) h
    refine mg (X := fun q30 => gV G mX5_command 7 Q 241 [none, none] [sr (some (ga G q30)), sr x28, sr (some a0)] (0) (0) h) hF (fun _ hj31 hF => ?_) (fun q30 hF => ?_)
    · refine v_if_eq (pc := 231) 239 dX5_command_231 rfl (fun hc => ?_) (fun hc => ?_)
      · replace hF := (okB_if hF).1 hc
        refine v_ldcS (pc := 239) 31 dX5_command_239 rfl ?_
        exact v_lle [none, none] trivial (hj31 31 (okB_some hF))
      replace hF := (okB_if hF).2 hc
      refine v_ldcS (pc := 234) 30 dX5_command_234 rfl ?_
      refine v_goto (pc := 236) 241 dX5_command_236 rfl ?_
      exact v_lle [none, none] trivial (hj31 30 (okB_some hF))
    refine ch_V (pc := 241) gU (as := [sr x28, sr (some (ga G q30))]) (st := []) (ci := 4) (N := mX5_goTo) (k := 0) (n := 0) (k1 := 0) (n1 := 0) dX5_command_241 lkX5_115 caX5_goTo cvX5_goTo rfl (by decide) rfl (fun b Q1 hq => tX5_goTo b x28 q30 h Q1 hq) ⟨by decide, by decide⟩ (Nat.le_of_ble_eq_true rfl) rfl hF (fun x32 h33 hF => ?_)
    show gV G mX5_command 7 Q 244 [none, none] [] (0) (0) h33
    refine v_goto (pc := 244) 326 dX5_command_244 rfl ?_
    exact v_ret (pc := 326) dX5_command_326 rfl (okr hF fun q => q)
  replace hF := (okB_if hF).2 hc16
  by_cases hc23 : a1 = (23 : Int32)
  · replace hF := (okB_if hF).1 hc23
    refine v_lookup (pc := 1) 308 dX5_command_1 (by decide) (by rw [hc23]; first | done | decide) rfl ?_
    refine v_aload_n (pc := 308) (i := 0) dX5_command_308 rfl rfl ?_
    refine s_getR (pc := 309) dX5_command_309 flX5_15 rfl hF (fun x34 hF => ?_)
    refine v_aload_n (pc := 312) (i := 0) dX5_command_312 rfl rfl ?_
    refine v_aload_n (pc := 313) (i := 0) dX5_command_313 rfl rfl ?_
    refine s_getR (pc := 314) dX5_command_314 flX5_48 rfl hF (fun x35 hF => ?_)
    refine ch_V (pc := 317) gR (as := [sr x35]) (st := [sr x34]) (ci := 4) (N := mX5_wordsOf) (k := 0) (n := 0) (k1 := 0) (n1 := 0) dX5_command_317 lkX5_154 caX5_wordsOf cvX5_wordsOf rfl (by decide) rfl (fun b Q1 hq => tX5_wordsOf b x35 h Q1 hq) ⟨by decide, by decide⟩ (Nat.le_of_ble_eq_true rfl) rfl hF (fun x36 h37 hF => ?_)
    show gV G mX5_command 7 Q 320 [some (sr (some a0)), some (si a1)] [sr x36, sr x34] (0) (0) h37
    refine ch_V (pc := 320) gU (as := [sr x36]) (st := []) (ci := 8) (N := mX9_comeAnswer) (k := 0) (n := 0) (k1 := 0) (n1 := 0) dX5_command_320 lkX5_158 caX9_comeAnswer cvX9_comeAnswer rfl (by decide) rfl (fun b Q1 hq => tX9_comeAnswer b x36 h37 Q1 hq) ⟨by decide, by decide⟩ (Nat.le_of_ble_eq_true rfl) rfl hF (fun x38 h39 hF => ?_)
    show gV G mX5_command 7 Q 323 [some (sr (some a0)), some (si a1)] [] (0) (0) h39
    refine v_goto (pc := 323) 326 dX5_command_323 rfl ?_
    exact v_ret (pc := 326) dX5_command_326 rfl (okr hF fun q => q)
  replace hF := (okB_if hF).2 hc23
  by_cases hc30 : a1 = (30 : Int32)
  · replace hF := (okB_if hF).1 hc30
    refine v_lookup (pc := 1) 247 dX5_command_1 (by decide) (by rw [hc30]; first | done | decide) rfl ?_
    refine v_aload_n (pc := 247) (i := 0) dX5_command_247 rfl rfl ?_
    refine v_aload_n (pc := 248) (i := 0) dX5_command_248 rfl rfl ?_
    refine s_getR (pc := 249) dX5_command_249 flX5_9 rfl hF (fun x40 hF => ?_)
    refine v_aload_n (pc := 252) (i := 0) dX5_command_252 rfl rfl ?_
    refine s_getR (pc := 253) dX5_command_253 flX5_48 rfl hF (fun x41 hF => ?_)
    refine cp_V (pc := 256) gR (as := [sr x41]) (st := [sr (some a0)]) (ci := 6) (N := mX7_nextForFocus) (k := 0) (n := 0) (k1 := 0) (n1 := 0) dX5_command_256 lkX5_135 caX7_nextForFocus cvX7_nextForFocus rfl (by decide) rfl (fun b Q1 hq => tX7_nextForFocus b x41 h Q1 hq) ⟨by decide, by decide⟩ (Nat.le_of_ble_eq_true rfl) rfl hF (fun x42 hF => ?_)
    show gV G mX5_command 7 Q 259 [some (sr (some a0)), some (si a1)] [sr x42, sr (some a0)] (0) (0) h
    refine v_ldcS (pc := 259) 31 dX5_command_259 rfl ?_
    refine ch_V (pc := 261) gU (as := [sr x42, sr (some (ga G 31))]) (st := []) (ci := 4) (N := mX5_goTo) (k := 0) (n := 0) (k1 := 0) (n1 := 0) dX5_command_261 lkX5_115 caX5_goTo cvX5_goTo rfl (by decide) rfl (fun b Q1 hq => tX5_goTo b x42 31 h Q1 hq) ⟨by decide, by decide⟩ (Nat.le_of_ble_eq_true rfl) rfl hF (fun x43 h44 hF => ?_)
    show gV G mX5_command 7 Q 264 [some (sr (some a0)), some (si a1)] [] (0) (0) h44
    refine v_aload_n (pc := 264) (i := 0) dX5_command_264 rfl rfl ?_
    refine ch_V (pc := 265) gU (as := []) (st := []) (ci := 4) (N := mX5_takeFocus) (k := 0) (n := 0) (k1 := 0) (n1 := 0) dX5_command_265 lkX5_139 caX5_takeFocus cvX5_takeFocus rfl (by decide) rfl (fun b Q1 hq => tX5_takeFocus b h44 Q1 hq) ⟨by decide, by decide⟩ (Nat.le_of_ble_eq_true rfl) rfl hF (fun x45 h46 hF => ?_)
    show gV G mX5_command 7 Q 268 [some (sr (some a0)), some (si a1)] [] (0) (0) h46
    refine v_goto (pc := 268) 326 dX5_command_268 rfl ?_
    exact v_ret (pc := 326) dX5_command_326 rfl (okr hF fun q => q)
  replace hF := (okB_if hF).2 hc30
  by_cases hc32 : a1 = (32 : Int32)
  · replace hF := (okB_if hF).1 hc32
    refine v_lookup (pc := 1) 182 dX5_command_1 (by decide) (by rw [hc32]; first | done | decide) rfl ?_
    refine v_aload_n (pc := 182) (i := 0) dX5_command_182 rfl rfl ?_
    refine v_aload_n (pc := 183) (i := 0) dX5_command_183 rfl rfl ?_
    refine cp_V (pc := 184) gR (as := []) (st := [sr (some a0)]) (ci := 4) (N := mX5_firstShownChild) (k := 0) (n := 0) (k1 := 0) (n1 := 0) dX5_command_184 lkX5_124 caX5_firstShownChild cvX5_firstShownChild rfl (by decide) rfl (fun b Q1 hq => tX5_firstShownChild b h Q1 hq) ⟨by decide, by decide⟩ (Nat.le_of_ble_eq_true rfl) rfl hF (fun x47 hF => ?_)
    show gV G mX5_command 7 Q 187 [some (sr (some a0)), some (si a1)] [sr x47, sr (some a0)] (0) (0) h
    refine v_ldcS (pc := 187) 31 dX5_command_187 rfl ?_
    refine ch_V (pc := 189) gU (as := [sr x47, sr (some (ga G 31))]) (st := []) (ci := 4) (N := mX5_goTo) (k := 0) (n := 0) (k1 := 0) (n1 := 0) dX5_command_189 lkX5_115 caX5_goTo cvX5_goTo rfl (by decide) rfl (fun b Q1 hq => tX5_goTo b x47 31 h Q1 hq) ⟨by decide, by decide⟩ (Nat.le_of_ble_eq_true rfl) rfl hF (fun x48 h49 hF => ?_)
    show gV G mX5_command 7 Q 192 [some (sr (some a0)), some (si a1)] [] (0) (0) h49
    refine v_goto (pc := 192) 326 dX5_command_192 rfl ?_
    exact v_ret (pc := 326) dX5_command_326 rfl (okr hF fun q => q)
  replace hF := (okB_if hF).2 hc32
  by_cases hc56 : a1 = (56 : Int32)
  · replace hF := (okB_if hF).1 hc56
    refine v_lookup (pc := 1) 298 dX5_command_1 (by decide) (by rw [hc56]; first | done | decide) rfl ?_
    refine v_aload_n (pc := 298) (i := 0) dX5_command_298 rfl rfl ?_
    refine s_getR (pc := 299) dX5_command_299 flX5_22 rfl hF (fun x50 hF => ?_)
    refine ch_V (pc := 302) gU (as := []) (st := []) (ci := 2) (N := mX3_goRight) (k := 0) (n := 0) (k1 := 0) (n1 := 0) dX5_command_302 lkX5_151 caX3_goRight cvX3_goRight rfl (by decide) rfl (fun b Q1 hq => tX3_goRight b h Q1 hq) ⟨by decide, by decide⟩ (Nat.le_of_ble_eq_true rfl) rfl hF (fun x51 h52 hF => ?_)
    show gV G mX5_command 7 Q 305 [some (sr (some a0)), some (si a1)] [] (0) (0) h52
    refine v_goto (pc := 305) 326 dX5_command_305 rfl ?_
    exact v_ret (pc := 326) dX5_command_326 rfl (okr hF fun q => q)
  replace hF := (okB_if hF).2 hc56
  by_cases hc64 : a1 = (64 : Int32)
  · replace hF := (okB_if hF).1 hc64
    refine v_lookup (pc := 1) 278 dX5_command_1 (by decide) (by rw [hc64]; first | done | decide) rfl ?_
    refine v_aload_n (pc := 278) (i := 0) dX5_command_278 rfl rfl ?_
    refine s_getR (pc := 279) dX5_command_279 flX5_15 rfl hF (fun x53 hF => ?_)
    refine ch_V (pc := 282) gU (as := []) (st := []) (ci := 8) (N := mX9_hush) (k := 0) (n := 0) (k1 := 0) (n1 := 0) dX5_command_282 lkX5_145 caX9_hush cvX9_hush rfl (by decide) rfl (fun b Q1 hq => tX9_hush b h Q1 hq) ⟨by decide, by decide⟩ (Nat.le_of_ble_eq_true rfl) rfl hF (fun x54 h55 hF => ?_)
    show gV G mX5_command 7 Q 285 [some (sr (some a0)), some (si a1)] [] (0) (0) h55
    refine v_goto (pc := 285) 326 dX5_command_285 rfl ?_
    exact v_ret (pc := 326) dX5_command_326 rfl (okr hF fun q => q)
  replace hF := (okB_if hF).2 hc64
  by_cases hc128 : a1 = (128 : Int32)
  · replace hF := (okB_if hF).1 hc128
    refine v_lookup (pc := 1) 271 dX5_command_1 (by decide) (by rw [hc128]; first | done | decide) rfl ?_
    refine v_aload_n (pc := 271) (i := 0) dX5_command_271 rfl rfl ?_
    refine ch_V (pc := 272) gU (as := []) (st := []) (ci := 4) (N := mX5_act) (k := 0) (n := 0) (k1 := 0) (n1 := 0) dX5_command_272 lkX5_142 caX5_act cvX5_act rfl (by decide) rfl (fun b Q1 hq => tX5_act b h Q1 hq) ⟨by decide, by decide⟩ (Nat.le_of_ble_eq_true rfl) rfl hF (fun x56 h57 hF => ?_)
    show gV G mX5_command 7 Q 275 [some (sr (some a0)), some (si a1)] [] (0) (0) h57
    refine v_goto (pc := 275) 326 dX5_command_275 rfl ?_
    exact v_ret (pc := 326) dX5_command_326 rfl (okr hF fun q => q)
  replace hF := (okB_if hF).2 hc128
  refine v_lookup (pc := 1) 326 dX5_command_1 (by decide) (look_d (fun p hp => ?_)) rfl ?_
  · rcases List.mem_cons.mp hp with rfl | hp
    · exact ne_toInt (k := (1 : Int32)) (by decide) hc1
    rcases List.mem_cons.mp hp with rfl | hp
    · exact ne_toInt (k := (2 : Int32)) (by decide) hc2
    rcases List.mem_cons.mp hp with rfl | hp
    · exact ne_toInt (k := (4 : Int32)) (by decide) hc4
    rcases List.mem_cons.mp hp with rfl | hp
    · exact ne_toInt (k := (7 : Int32)) (by decide) hc7
    rcases List.mem_cons.mp hp with rfl | hp
    · exact ne_toInt (k := (8 : Int32)) (by decide) hc8
    rcases List.mem_cons.mp hp with rfl | hp
    · exact ne_toInt (k := (16 : Int32)) (by decide) hc16
    rcases List.mem_cons.mp hp with rfl | hp
    · exact ne_toInt (k := (23 : Int32)) (by decide) hc23
    rcases List.mem_cons.mp hp with rfl | hp
    · exact ne_toInt (k := (30 : Int32)) (by decide) hc30
    rcases List.mem_cons.mp hp with rfl | hp
    · exact ne_toInt (k := (32 : Int32)) (by decide) hc32
    rcases List.mem_cons.mp hp with rfl | hp
    · exact ne_toInt (k := (56 : Int32)) (by decide) hc56
    rcases List.mem_cons.mp hp with rfl | hp
    · exact ne_toInt (k := (64 : Int32)) (by decide) hc64
    rcases List.mem_cons.mp hp with rfl | hp
    · exact ne_toInt (k := (128 : Int32)) (by decide) hc128
    cases hp
  exact v_ret (pc := 326) dX5_command_326 rfl (okr hF fun q => q)
/-! BrailleDesk$Reader.sayCharacter -/
theorem tX5_sayCharacter {G : gG} (a0 : Nat) (a1 : Int32) (h : hp) (Q : hQ) (hF : okB (fX5_sayCharacter a0 a1 h) (pH gU Q)) : gS G mX5_sayCharacter 5 0 0 [sr (some a0), si a1] h Q := by
  delta fX5_sayCharacter at hF
  refine gS_at [some (sr (some a0)), some (si a1)] pl_X5 rfl (Nat.le_of_ble_eq_true rfl) rfl ?_
  refine v_aload_n (pc := 0) (i := 0) dX5_sayCharacter_0 rfl rfl ?_
  refine s_getR (pc := 1) dX5_sayCharacter_1 flX5_38 rfl hF (fun x1 hF => ?_)
  refine ch_V (pc := 4) gU (as := []) (st := []) (ci := 0) (N := mX1_clear) (k := 0) (n := 0) (k1 := 0) (n1 := 0) dX5_sayCharacter_4 lkX5_63 caX1_clear cvX1_clear rfl (by decide) rfl (fun b Q1 hq => tX1_clear b h Q1 hq) ⟨by decide, by decide⟩ (Nat.le_of_ble_eq_true rfl) rfl hF (fun x2 h3 hF => ?_)
  show gV G mX5_sayCharacter 5 Q 7 [some (sr (some a0)), some (si a1)] [] (0) (0) h3
  refine v_iload_n (pc := 7) (i := 1) dX5_sayCharacter_7 rfl rfl ?_
  refine v_bipush (pc := 8) (v := (32 : Int32)) dX5_sayCharacter_8 rfl ?_
  refine mg (X := fun q4 => gV G mX5_sayCharacter 5 Q 34 [some (sr (some a0)), none] [] (0) (0) q4) hF (fun _ hj5 hF => ?_) (fun q4 hF => ?_)
  · refine v_icmp_ne (pc := 10) 26 dX5_sayCharacter_10 rfl (fun hc => ?_) (fun hc => ?_)
    · replace hF := (okB_if hF).2 hc
      refine v_aload_n (pc := 26) (i := 0) dX5_sayCharacter_26 rfl rfl ?_
      refine s_getR (pc := 27) dX5_sayCharacter_27 flX5_38 rfl hF (fun x6 hF => ?_)
      refine v_iload_n (pc := 30) (i := 1) dX5_sayCharacter_30 rfl rfl ?_
      refine ch_V (pc := 31) gU (as := [si a1]) (st := []) (ci := 0) (N := mX1_put) (k := 0) (n := 0) (k1 := 0) (n1 := 0) dX5_sayCharacter_31 lkX5_248 caX1_put cvX1_put rfl (by decide) rfl (fun b Q1 hq => tX1_put b a1 h3 Q1 hq) ⟨by decide, by decide⟩ (Nat.le_of_ble_eq_true rfl) rfl hF (fun x7 h8 hF => ?_)
      show gV G mX5_sayCharacter 5 Q 34 [some (sr (some a0)), some (si a1)] [] (0) (0) h8
      exact v_lle [some (sr (some a0)), none] ⟨rfl, trivial⟩ (hj5 h8 (okB_some hF))
    replace hF := (okB_if hF).1 hc
    refine v_aload_n (pc := 13) (i := 0) dX5_sayCharacter_13 rfl rfl ?_
    refine s_getR (pc := 14) dX5_sayCharacter_14 flX5_38 rfl hF (fun x9 hF => ?_)
    refine v_ldcSW (pc := 17) 36 dX5_sayCharacter_17 rfl ?_
    refine ch_V (pc := 20) gU (as := [sr (some (ga G 36))]) (st := []) (ci := 0) (N := mX1_part_) (k := 0) (n := 0) (k1 := 0) (n1 := 0) dX5_sayCharacter_20 lkX5_88 caX1_part_ cvX1_part_ rfl (by decide) rfl (fun b Q1 hq => tX1_part_ b 36 h3 Q1 hq) ⟨by decide, by decide⟩ (Nat.le_of_ble_eq_true rfl) rfl hF (fun x10 h11 hF => ?_)
    show gV G mX5_sayCharacter 5 Q 23 [some (sr (some a0)), some (si a1)] [] (0) (0) h11
    refine v_goto (pc := 23) 34 dX5_sayCharacter_23 rfl ?_
    exact v_lle [some (sr (some a0)), none] ⟨rfl, trivial⟩ (hj5 h11 (okB_some hF))
  refine v_aload_n (pc := 34) (i := 0) dX5_sayCharacter_34 rfl rfl ?_
  refine s_getR (pc := 35) dX5_sayCharacter_35 flX5_15 rfl hF (fun x12 hF => ?_)
  refine v_aload_n (pc := 38) (i := 0) dX5_sayCharacter_38 rfl rfl ?_
  refine s_getR (pc := 39) dX5_sayCharacter_39 flX5_38 rfl hF (fun x13 hF => ?_)
  refine ch_V (pc := 42) gU (as := [sr x13]) (st := []) (ci := 8) (N := mX9_comeAnswer) (k := 0) (n := 0) (k1 := 0) (n1 := 0) dX5_sayCharacter_42 lkX5_158 caX9_comeAnswer cvX9_comeAnswer rfl (by decide) rfl (fun b Q1 hq => tX9_comeAnswer b x13 q4 Q1 hq) ⟨by decide, by decide⟩ (Nat.le_of_ble_eq_true rfl) rfl hF (fun x14 h15 hF => ?_)
  show gV G mX5_sayCharacter 5 Q 45 [some (sr (some a0)), none] [] (0) (0) h15
  exact v_ret (pc := 45) dX5_sayCharacter_45 rfl (okr hF fun q => q)
/-! BrailleDesk$Reader.takeBack -/
theorem tX5_takeBack {G : gG} (a0 : Nat) (h : hp) (Q : hQ) (hF : okB (fX5_takeBack a0 h) (pH gU Q)) : gS G mX5_takeBack 6 0 0 [sr (some a0)] h Q := by
  delta fX5_takeBack at hF
  refine gS_at [some (sr (some a0)), none, none] pl_X5 rfl (Nat.le_of_ble_eq_true rfl) rfl ?_
  refine v_aload_n (pc := 0) (i := 0) dX5_takeBack_0 rfl rfl ?_
  refine s_getR (pc := 1) dX5_takeBack_1 flX5_48 rfl hF (fun x1 hF => ?_)
  refine s_getR (pc := 4) dX5_takeBack_4 flX5_242 rfl hF (fun x2 hF => ?_)
  refine cp_V (pc := 7) gI (as := []) (st := []) (ci := 0) (N := mX1_size) (k := 0) (n := 0) (k1 := 0) (n1 := 0) dX5_takeBack_7 lkX5_245 caX1_size cvX1_size rfl (by decide) rfl (fun b Q1 hq => tX1_size b h Q1 hq) ⟨by decide, by decide⟩ (Nat.le_of_ble_eq_true rfl) rfl hF (fun x3 hF => ?_)
  show gV G mX5_takeBack 6 Q 10 [some (sr (some a0)), none, none] [si x3] (0) (0) h
  refine v_istore_n (pc := 10) (i := 1) [some (sr (some a0)), some (si x3), none] dX5_takeBack_10 rfl (by decide) rfl rfl ?_
  refine v_iload_n (pc := 11) (i := 1) dX5_takeBack_11 rfl rfl ?_
  refine v_if_ne (pc := 12) 22 dX5_takeBack_12 rfl (fun hc => ?_) (fun hc => ?_)
  · replace hF := (okB_if hF).2 hc
    refine v_aload_n (pc := 22) (i := 0) dX5_takeBack_22 rfl rfl ?_
    refine s_getR (pc := 23) dX5_takeBack_23 flX5_48 rfl hF (fun x4 hF => ?_)
    refine s_getR (pc := 26) dX5_takeBack_26 flX5_242 rfl hF (fun x5 hF => ?_)
    refine v_iload_n (pc := 29) (i := 1) dX5_takeBack_29 rfl rfl ?_
    refine v_iconst (pc := 30) (v := (1 : Int32)) dX5_takeBack_30 rfl ?_
    refine v_isub (pc := 31) dX5_takeBack_31 ?_
    refine cp_V (pc := 32) gI (as := [si (x3 - (1 : Int32))]) (st := []) (ci := 0) (N := mX1_at) (k := 0) (n := 0) (k1 := 0) (n1 := 0) dX5_takeBack_32 lkX5_257 caX1_at cvX1_at rfl (by decide) rfl (fun b Q1 hq => tX1_at b (x3 - (1 : Int32)) h Q1 hq) ⟨by decide, by decide⟩ (Nat.le_of_ble_eq_true rfl) rfl hF (fun x6 hF => ?_)
    show gV G mX5_takeBack 6 Q 35 [some (sr (some a0)), some (si x3), none] [si x6] (0) (0) h
    refine v_istore_n (pc := 35) (i := 2) [some (sr (some a0)), some (si x3), some (si x6)] dX5_takeBack_35 rfl (by decide) rfl rfl ?_
    refine v_aload_n (pc := 36) (i := 0) dX5_takeBack_36 rfl rfl ?_
    refine s_getR (pc := 37) dX5_takeBack_37 flX5_48 rfl hF (fun x7 hF => ?_)
    refine s_getR (pc := 40) dX5_takeBack_40 flX5_242 rfl hF (fun x8 hF => ?_)
    refine ch_V (pc := 43) gU (as := []) (st := []) (ci := 0) (N := mX1_takeLast) (k := 0) (n := 0) (k1 := 0) (n1 := 0) dX5_takeBack_43 lkX5_260 caX1_takeLast cvX1_takeLast rfl (by decide) rfl (fun b Q1 hq => tX1_takeLast b h Q1 hq) ⟨by decide, by decide⟩ (Nat.le_of_ble_eq_true rfl) rfl hF (fun x9 h10 hF => ?_)
    show gV G mX5_takeBack 6 Q 46 [some (sr (some a0)), some (si x3), some (si x6)] [] (0) (0) h10
    refine v_aload_n (pc := 46) (i := 0) dX5_takeBack_46 rfl rfl ?_
    refine v_iload_n (pc := 47) (i := 2) dX5_takeBack_47 rfl rfl ?_
    refine ch_V (pc := 48) gU (as := [si x6]) (st := []) (ci := 4) (N := mX5_sayCharacter) (k := 0) (n := 0) (k1 := 0) (n1 := 0) dX5_takeBack_48 lkX5_254 caX5_sayCharacter cvX5_sayCharacter rfl (by decide) rfl (fun b Q1 hq => tX5_sayCharacter b x6 h10 Q1 hq) ⟨by decide, by decide⟩ (Nat.le_of_ble_eq_true rfl) rfl hF (fun x11 h12 hF => ?_)
    show gV G mX5_takeBack 6 Q 51 [some (sr (some a0)), some (si x3), some (si x6)] [] (0) (0) h12
    exact v_ret (pc := 51) dX5_takeBack_51 rfl (okr hF fun q => q)
  replace hF := (okB_if hF).1 hc
  refine v_aload_n (pc := 15) (i := 0) dX5_takeBack_15 rfl rfl ?_
  refine v_ldcS (pc := 16) 31 dX5_takeBack_16 rfl ?_
  refine ch_V (pc := 18) gU (as := [sr (some (ga G 31))]) (st := []) (ci := 4) (N := mX5_say) (k := 0) (n := 0) (k1 := 0) (n1 := 0) dX5_takeBack_18 lkX5_161 caX5_say cvX5_say rfl (by decide) rfl (fun b Q1 hq => tX5_say b 31 h Q1 hq) ⟨by decide, by decide⟩ (Nat.le_of_ble_eq_true rfl) rfl hF (fun x13 h14 hF => ?_)
  show gV G mX5_takeBack 6 Q 21 [some (sr (some a0)), some (si x3), none] [] (0) (0) h14
  exact v_ret (pc := 21) dX5_takeBack_21 rfl (okr hF fun q => q)
