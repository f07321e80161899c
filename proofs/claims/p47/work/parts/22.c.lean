/-! ===== methods: their functions and rows ===== -/
theorem dX0_write_0 : decode cX0_write 0 = .ok (.iconst 0, 1) := by decide +kernel
theorem dX0_write_1 : decode cX0_write 1 = .ok (.istore_n 2, 1) := by decide +kernel
theorem dX0_write_2 : decode cX0_write 2 = .ok (.iload_n 2, 1) := by decide +kernel
theorem dX0_write_3 : decode cX0_write 3 = .ok (.aload_n 1, 1) := by decide +kernel
theorem dX0_write_4 : decode cX0_write 4 = .ok (.invokevirtual 29, 3) := by decide +kernel
theorem dX0_write_7 : decode cX0_write 7 = .ok (.if_icmp .ge 166, 3) := by decide +kernel
theorem dX0_write_10 : decode cX0_write 10 = .ok (.aload_n 1, 1) := by decide +kernel
theorem dX0_write_11 : decode cX0_write 11 = .ok (.iload_n 2, 1) := by decide +kernel
theorem dX0_write_12 : decode cX0_write 12 = .ok (.invokevirtual 35, 3) := by decide +kernel
theorem dX0_write_15 : decode cX0_write 15 = .ok (.istore_n 3, 1) := by decide +kernel
theorem dX0_write_16 : decode cX0_write 16 = .ok (.aload_n 1, 1) := by decide +kernel
theorem dX0_write_17 : decode cX0_write 17 = .ok (.iload_n 2, 1) := by decide +kernel
theorem dX0_write_18 : decode cX0_write 18 = .ok (.iconst 1, 1) := by decide +kernel
theorem dX0_write_19 : decode cX0_write 19 = .ok (.isub, 1) := by decide +kernel
theorem dX0_write_20 : decode cX0_write 20 = .ok (.invokevirtual 35, 3) := by decide +kernel
theorem dX0_write_23 : decode cX0_write 23 = .ok (.invokestatic 38, 3) := by decide +kernel
theorem dX0_write_26 : decode cX0_write 26 = .ok (.istore 4, 2) := by decide +kernel
theorem dX0_write_28 : decode cX0_write 28 = .ok (.iload_n 3, 1) := by decide +kernel
theorem dX0_write_29 : decode cX0_write 29 = .ok (.invokestatic 42, 3) := by decide +kernel
theorem dX0_write_32 : decode cX0_write 32 = .ok (.ifCond .eq 34, 3) := by decide +kernel
theorem dX0_write_35 : decode cX0_write 35 = .ok (.iload_n 3, 1) := by decide +kernel
theorem dX0_write_36 : decode cX0_write 36 = .ok (.bipush 106, 2) := by decide +kernel
theorem dX0_write_38 : decode cX0_write 38 = .ok (.if_icmp .gt 14, 3) := by decide +kernel
theorem dX0_write_41 : decode cX0_write 41 = .ok (.iload 4, 2) := by decide +kernel
theorem dX0_write_43 : decode cX0_write 43 = .ok (.ifCond .eq 9, 3) := by decide +kernel
theorem dX0_write_46 : decode cX0_write 46 = .ok (.aload_n 0, 1) := by decide +kernel
theorem dX0_write_47 : decode cX0_write 47 = .ok (.bipush 48, 2) := by decide +kernel
theorem dX0_write_49 : decode cX0_write 49 = .ok (.invokevirtual 45, 3) := by decide +kernel
theorem dX0_write_52 : decode cX0_write 52 = .ok (.aload_n 0, 1) := by decide +kernel
theorem dX0_write_53 : decode cX0_write 53 = .ok (.iload_n 3, 1) := by decide +kernel
theorem dX0_write_54 : decode cX0_write 54 = .ok (.bipush 97, 2) := by decide +kernel
theorem dX0_write_56 : decode cX0_write 56 = .ok (.isub, 1) := by decide +kernel
theorem dX0_write_57 : decode cX0_write 57 = .ok (.invokestatic 25, 3) := by decide +kernel
theorem dX0_write_60 : decode cX0_write 60 = .ok (.invokevirtual 45, 3) := by decide +kernel
theorem dX0_write_63 : decode cX0_write 63 = .ok (.goto 104, 3) := by decide +kernel
theorem dX0_write_66 : decode cX0_write 66 = .ok (.iload_n 3, 1) := by decide +kernel
theorem dX0_write_67 : decode cX0_write 67 = .ok (.invokestatic 49, 3) := by decide +kernel
theorem dX0_write_70 : decode cX0_write 70 = .ok (.ifCond .eq 46, 3) := by decide +kernel
theorem dX0_write_73 : decode cX0_write 73 = .ok (.aload_n 1, 1) := by decide +kernel
theorem dX0_write_74 : decode cX0_write 74 = .ok (.iload_n 2, 1) := by decide +kernel
theorem dX0_write_75 : decode cX0_write 75 = .ok (.invokestatic 52, 3) := by decide +kernel
theorem dX0_write_78 : decode cX0_write 78 = .ok (.istore 5, 2) := by decide +kernel
theorem dX0_write_80 : decode cX0_write 80 = .ok (.iconst 0, 1) := by decide +kernel
theorem dX0_write_81 : decode cX0_write 81 = .ok (.istore 6, 2) := by decide +kernel
theorem dX0_write_83 : decode cX0_write 83 = .ok (.iload 6, 2) := by decide +kernel
theorem dX0_write_85 : decode cX0_write 85 = .ok (.iload 5, 2) := by decide +kernel
theorem dX0_write_87 : decode cX0_write 87 = .ok (.if_icmp .ge 15, 3) := by decide +kernel
theorem dX0_write_90 : decode cX0_write 90 = .ok (.aload_n 0, 1) := by decide +kernel
theorem dX0_write_91 : decode cX0_write 91 = .ok (.bipush 32, 2) := by decide +kernel
theorem dX0_write_93 : decode cX0_write 93 = .ok (.invokevirtual 45, 3) := by decide +kernel
theorem dX0_write_96 : decode cX0_write 96 = .ok (.iinc 6 1, 3) := by decide +kernel
theorem dX0_write_99 : decode cX0_write 99 = .ok (.goto (-16), 3) := by decide +kernel
theorem dX0_write_102 : decode cX0_write 102 = .ok (.aload_n 0, 1) := by decide +kernel
theorem dX0_write_103 : decode cX0_write 103 = .ok (.iload_n 3, 1) := by decide +kernel
theorem dX0_write_104 : decode cX0_write 104 = .ok (.bipush 65, 2) := by decide +kernel
theorem dX0_write_106 : decode cX0_write 106 = .ok (.isub, 1) := by decide +kernel
theorem dX0_write_107 : decode cX0_write 107 = .ok (.invokestatic 25, 3) := by decide +kernel
theorem dX0_write_110 : decode cX0_write 110 = .ok (.invokevirtual 45, 3) := by decide +kernel
theorem dX0_write_113 : decode cX0_write 113 = .ok (.goto 54, 3) := by decide +kernel
theorem dX0_write_116 : decode cX0_write 116 = .ok (.iload_n 3, 1) := by decide +kernel
theorem dX0_write_117 : decode cX0_write 117 = .ok (.invokestatic 38, 3) := by decide +kernel
theorem dX0_write_120 : decode cX0_write 120 = .ok (.ifCond .eq 39, 3) := by decide +kernel
theorem dX0_write_123 : decode cX0_write 123 = .ok (.iload 4, 2) := by decide +kernel
theorem dX0_write_125 : decode cX0_write 125 = .ok (.ifCond .ne 9, 3) := by decide +kernel
theorem dX0_write_128 : decode cX0_write 128 = .ok (.aload_n 0, 1) := by decide +kernel
theorem dX0_write_129 : decode cX0_write 129 = .ok (.bipush 60, 2) := by decide +kernel
theorem dX0_write_131 : decode cX0_write 131 = .ok (.invokevirtual 45, 3) := by decide +kernel
theorem dX0_write_134 : decode cX0_write 134 = .ok (.aload_n 0, 1) := by decide +kernel
theorem dX0_write_135 : decode cX0_write 135 = .ok (.iload_n 3, 1) := by decide +kernel
theorem dX0_write_136 : decode cX0_write 136 = .ok (.bipush 48, 2) := by decide +kernel
theorem dX0_write_138 : decode cX0_write 138 = .ok (.if_icmp .ne 8, 3) := by decide +kernel
theorem dX0_write_141 : decode cX0_write 141 = .ok (.bipush 9, 2) := by decide +kernel
theorem dX0_write_143 : decode cX0_write 143 = .ok (.goto 7, 3) := by decide +kernel
theorem dX0_write_146 : decode cX0_write 146 = .ok (.iload_n 3, 1) := by decide +kernel
theorem dX0_write_147 : decode cX0_write 147 = .ok (.bipush 49, 2) := by decide +kernel
theorem dX0_write_149 : decode cX0_write 149 = .ok (.isub, 1) := by decide +kernel
theorem dX0_write_150 : decode cX0_write 150 = .ok (.invokestatic 25, 3) := by decide +kernel
theorem dX0_write_153 : decode cX0_write 153 = .ok (.invokevirtual 45, 3) := by decide +kernel
theorem dX0_write_156 : decode cX0_write 156 = .ok (.goto 11, 3) := by decide +kernel
theorem dX0_write_159 : decode cX0_write 159 = .ok (.aload_n 0, 1) := by decide +kernel
theorem dX0_write_160 : decode cX0_write 160 = .ok (.iload_n 3, 1) := by decide +kernel
theorem dX0_write_161 : decode cX0_write 161 = .ok (.invokestatic 56, 3) := by decide +kernel
theorem dX0_write_164 : decode cX0_write 164 = .ok (.invokevirtual 45, 3) := by decide +kernel
theorem dX0_write_167 : decode cX0_write 167 = .ok (.iinc 2 1, 3) := by decide +kernel
theorem dX0_write_170 : decode cX0_write 170 = .ok (.goto (-168), 3) := by decide +kernel
theorem dX0_write_173 : decode cX0_write 173 = .ok (.return_, 1) := by decide +kernel
theorem dX2_levelNow_0 : decode cX2_levelNow 0 = .ok (.aload_n 0, 1) := by decide +kernel
theorem dX2_levelNow_1 : decode cX2_levelNow 1 = .ok (.astore_n 1, 1) := by decide +kernel
theorem dX2_levelNow_2 : decode cX2_levelNow 2 = .ok (.aload_n 1, 1) := by decide +kernel
theorem dX2_levelNow_3 : decode cX2_levelNow 3 = .ok (.ifnull 24, 3) := by decide +kernel
theorem dX2_levelNow_6 : decode cX2_levelNow 6 = .ok (.aload_n 1, 1) := by decide +kernel
theorem dX2_levelNow_7 : decode cX2_levelNow 7 = .ok (.getfield 38, 3) := by decide +kernel
theorem dX2_levelNow_10 : decode cX2_levelNow 10 = .ok (.iconst (-1), 1) := by decide +kernel
theorem dX2_levelNow_11 : decode cX2_levelNow 11 = .ok (.if_icmp .eq 8, 3) := by decide +kernel
theorem dX2_levelNow_14 : decode cX2_levelNow 14 = .ok (.aload_n 1, 1) := by decide +kernel
theorem dX2_levelNow_15 : decode cX2_levelNow 15 = .ok (.getfield 38, 3) := by decide +kernel
theorem dX2_levelNow_18 : decode cX2_levelNow 18 = .ok (.ireturn, 1) := by decide +kernel
theorem dX2_levelNow_19 : decode cX2_levelNow 19 = .ok (.aload_n 1, 1) := by decide +kernel
theorem dX2_levelNow_20 : decode cX2_levelNow 20 = .ok (.getfield 18, 3) := by decide +kernel
theorem dX2_levelNow_23 : decode cX2_levelNow 23 = .ok (.astore_n 1, 1) := by decide +kernel
theorem dX2_levelNow_24 : decode cX2_levelNow 24 = .ok (.goto (-22), 3) := by decide +kernel
theorem dX2_levelNow_27 : decode cX2_levelNow 27 = .ok (.iconst 1, 1) := by decide +kernel
theorem dX2_levelNow_28 : decode cX2_levelNow 28 = .ok (.ireturn, 1) := by decide +kernel
theorem dX2_kindWord_0 : decode cX2_kindWord 0 = .ok (.iload_n 0, 1) := by decide +kernel
theorem dX2_kindWord_1 : decode cX2_kindWord 1 = .ok (.tableswitch 68 0 7 #[47, 68, 50, 53, 56, 59, 62, 65], 47) := by decide +kernel
theorem dX2_kindWord_48 : decode cX2_kindWord 48 = .ok (.ldc 99, 2) := by decide +kernel
theorem dX2_kindWord_50 : decode cX2_kindWord 50 = .ok (.areturn, 1) := by decide +kernel
theorem dX2_kindWord_51 : decode cX2_kindWord 51 = .ok (.ldc 101, 2) := by decide +kernel
theorem dX2_kindWord_53 : decode cX2_kindWord 53 = .ok (.areturn, 1) := by decide +kernel
theorem dX2_kindWord_54 : decode cX2_kindWord 54 = .ok (.ldc 103, 2) := by decide +kernel
theorem dX2_kindWord_56 : decode cX2_kindWord 56 = .ok (.areturn, 1) := by decide +kernel
theorem dX2_kindWord_57 : decode cX2_kindWord 57 = .ok (.ldc 105, 2) := by decide +kernel
theorem dX2_kindWord_59 : decode cX2_kindWord 59 = .ok (.areturn, 1) := by decide +kernel
theorem dX2_kindWord_60 : decode cX2_kindWord 60 = .ok (.ldc 107, 2) := by decide +kernel
theorem dX2_kindWord_62 : decode cX2_kindWord 62 = .ok (.areturn, 1) := by decide +kernel
theorem dX2_kindWord_63 : decode cX2_kindWord 63 = .ok (.ldc 109, 2) := by decide +kernel
theorem dX2_kindWord_65 : decode cX2_kindWord 65 = .ok (.areturn, 1) := by decide +kernel
theorem dX2_kindWord_66 : decode cX2_kindWord 66 = .ok (.ldc 111, 2) := by decide +kernel
theorem dX2_kindWord_68 : decode cX2_kindWord 68 = .ok (.areturn, 1) := by decide +kernel
theorem dX2_kindWord_69 : decode cX2_kindWord 69 = .ok (.ldc 113, 2) := by decide +kernel
theorem dX2_kindWord_71 : decode cX2_kindWord 71 = .ok (.areturn, 1) := by decide +kernel
theorem dX0_writeLine_0 : decode cX0_writeLine 0 = .ok (.aload_n 0, 1) := by decide +kernel
theorem dX0_writeLine_1 : decode cX0_writeLine 1 = .ok (.invokevirtual 62, 3) := by decide +kernel
theorem dX0_writeLine_4 : decode cX0_writeLine 4 = .ok (.aload_n 1, 1) := by decide +kernel
theorem dX0_writeLine_5 : decode cX0_writeLine 5 = .ok (.invokevirtual 65, 3) := by decide +kernel
theorem dX0_writeLine_8 : decode cX0_writeLine 8 = .ok (.ifCond .eq 29, 3) := by decide +kernel
theorem dX0_writeLine_11 : decode cX0_writeLine 11 = .ok (.aload_n 1, 1) := by decide +kernel
theorem dX0_writeLine_12 : decode cX0_writeLine 12 = .ok (.getfield 70, 3) := by decide +kernel
theorem dX0_writeLine_15 : decode cX0_writeLine 15 = .ok (.iconst 1, 1) := by decide +kernel
theorem dX0_writeLine_16 : decode cX0_writeLine 16 = .ok (.if_icmp .eq 21, 3) := by decide +kernel
theorem dX0_writeLine_19 : decode cX0_writeLine 19 = .ok (.aload_n 0, 1) := by decide +kernel
theorem dX0_writeLine_20 : decode cX0_writeLine 20 = .ok (.aload_n 1, 1) := by decide +kernel
theorem dX0_writeLine_21 : decode cX0_writeLine 21 = .ok (.getfield 70, 3) := by decide +kernel
theorem dX0_writeLine_24 : decode cX0_writeLine 24 = .ok (.invokestatic 74, 3) := by decide +kernel
theorem dX0_writeLine_27 : decode cX0_writeLine 27 = .ok (.invokestatic 78, 3) := by decide +kernel
theorem dX0_writeLine_30 : decode cX0_writeLine 30 = .ok (.sipush 192, 3) := by decide +kernel
theorem dX0_writeLine_33 : decode cX0_writeLine 33 = .ok (.ior, 1) := by decide +kernel
theorem dX0_writeLine_34 : decode cX0_writeLine 34 = .ok (.invokevirtual 45, 3) := by decide +kernel
theorem dX0_writeLine_37 : decode cX0_writeLine 37 = .ok (.aload_n 0, 1) := by decide +kernel
theorem dX0_writeLine_38 : decode cX0_writeLine 38 = .ok (.aload_n 1, 1) := by decide +kernel
theorem dX0_writeLine_39 : decode cX0_writeLine 39 = .ok (.getfield 82, 3) := by decide +kernel
theorem dX0_writeLine_42 : decode cX0_writeLine 42 = .ok (.invokestatic 86, 3) := by decide +kernel
theorem dX0_writeLine_45 : decode cX0_writeLine 45 = .ok (.aload_n 1, 1) := by decide +kernel
theorem dX0_writeLine_46 : decode cX0_writeLine 46 = .ok (.getfield 70, 3) := by decide +kernel
theorem dX0_writeLine_49 : decode cX0_writeLine 49 = .ok (.iconst 3, 1) := by decide +kernel
theorem dX0_writeLine_50 : decode cX0_writeLine 50 = .ok (.if_icmp .ne 26, 3) := by decide +kernel
theorem dX0_writeLine_53 : decode cX0_writeLine 53 = .ok (.aload_n 0, 1) := by decide +kernel
theorem dX0_writeLine_54 : decode cX0_writeLine 54 = .ok (.iconst 0, 1) := by decide +kernel
theorem dX0_writeLine_55 : decode cX0_writeLine 55 = .ok (.invokevirtual 45, 3) := by decide +kernel
theorem dX0_writeLine_58 : decode cX0_writeLine 58 = .ok (.aload_n 0, 1) := by decide +kernel
theorem dX0_writeLine_59 : decode cX0_writeLine 59 = .ok (.aload_n 1, 1) := by decide +kernel
theorem dX0_writeLine_60 : decode cX0_writeLine 60 = .ok (.getfield 90, 3) := by decide +kernel
theorem dX0_writeLine_63 : decode cX0_writeLine 63 = .ok (.ifCond .eq 8, 3) := by decide +kernel
theorem dX0_writeLine_66 : decode cX0_writeLine 66 = .ok (.bipush 63, 2) := by decide +kernel
theorem dX0_writeLine_68 : decode cX0_writeLine 68 = .ok (.goto 5, 3) := by decide +kernel
theorem dX0_writeLine_71 : decode cX0_writeLine 71 = .ok (.bipush 36, 2) := by decide +kernel
theorem dX0_writeLine_73 : decode cX0_writeLine 73 = .ok (.invokevirtual 45, 3) := by decide +kernel
theorem dX0_writeLine_76 : decode cX0_writeLine 76 = .ok (.aload_n 1, 1) := by decide +kernel
theorem dX0_writeLine_77 : decode cX0_writeLine 77 = .ok (.getfield 94, 3) := by decide +kernel
theorem dX0_writeLine_80 : decode cX0_writeLine 80 = .ok (.invokevirtual 29, 3) := by decide +kernel
theorem dX0_writeLine_83 : decode cX0_writeLine 83 = .ok (.ifCond .le 16, 3) := by decide +kernel
theorem dX0_writeLine_86 : decode cX0_writeLine 86 = .ok (.aload_n 0, 1) := by decide +kernel
theorem dX0_writeLine_87 : decode cX0_writeLine 87 = .ok (.iconst 0, 1) := by decide +kernel
theorem dX0_writeLine_88 : decode cX0_writeLine 88 = .ok (.invokevirtual 45, 3) := by decide +kernel
theorem dX0_writeLine_91 : decode cX0_writeLine 91 = .ok (.aload_n 0, 1) := by decide +kernel
theorem dX0_writeLine_92 : decode cX0_writeLine 92 = .ok (.aload_n 1, 1) := by decide +kernel
theorem dX0_writeLine_93 : decode cX0_writeLine 93 = .ok (.getfield 94, 3) := by decide +kernel
theorem dX0_writeLine_96 : decode cX0_writeLine 96 = .ok (.invokestatic 86, 3) := by decide +kernel
theorem dX0_writeLine_99 : decode cX0_writeLine 99 = .ok (.aload_n 1, 1) := by decide +kernel
theorem dX0_writeLine_100 : decode cX0_writeLine 100 = .ok (.getfield 70, 3) := by decide +kernel
theorem dX0_writeLine_103 : decode cX0_writeLine 103 = .ok (.iconst 4, 1) := by decide +kernel
theorem dX0_writeLine_104 : decode cX0_writeLine 104 = .ok (.if_icmp .ne 14, 3) := by decide +kernel
theorem dX0_writeLine_107 : decode cX0_writeLine 107 = .ok (.iload_n 2, 1) := by decide +kernel
theorem dX0_writeLine_108 : decode cX0_writeLine 108 = .ok (.ifCond .eq 10, 3) := by decide +kernel
theorem dX0_writeLine_111 : decode cX0_writeLine 111 = .ok (.aload_n 0, 1) := by decide +kernel
theorem dX0_writeLine_112 : decode cX0_writeLine 112 = .ok (.sipush 192, 3) := by decide +kernel
theorem dX0_writeLine_115 : decode cX0_writeLine 115 = .ok (.invokevirtual 45, 3) := by decide +kernel
theorem dX0_writeLine_118 : decode cX0_writeLine 118 = .ok (.return_, 1) := by decide +kernel
abbrev mX0_write : gM := (yX0_write, cX0_write, 7, (Option.none : Option FieldType), [])
theorem caX0_write : cal mX0_write 2 := ⟨xw 394 (by decide +kernel) rfl, xw 39 (by decide +kernel) rfl, by decide, by decide +kernel⟩
theorem csX0_write : Cond.static yX0_write ∈ XW := xw 393 (by decide +kernel) rfl
abbrev mX2_levelNow : gM := (yX2_levelNow, cX2_levelNow, 2, (Option.some FieldType.int), [])
theorem caX2_levelNow : cal mX2_levelNow 0 := ⟨xw 324 (by decide +kernel) rfl, xw 31 (by decide +kernel) rfl, by decide, by decide +kernel⟩
theorem cvX2_levelNow : calV mX2_levelNow := ⟨xw 322 (by decide +kernel) rfl, xw 323 (by decide +kernel) rfl⟩
abbrev mX2_kindWord : gM := (yX2_kindWord, cX2_kindWord, 1, (Option.some (FieldType.object "java/lang/String")), [])
theorem caX2_kindWord : cal mX2_kindWord 1 := ⟨xw 327 (by decide +kernel) rfl, xw 31 (by decide +kernel) rfl, by decide, by decide +kernel⟩
theorem csX2_kindWord : Cond.static yX2_kindWord ∈ XW := xw 326 (by decide +kernel) rfl
abbrev mX0_writeLine : gM := (yX0_writeLine, cX0_writeLine, 3, (Option.none : Option FieldType), [])
theorem caX0_writeLine : cal mX0_writeLine 3 := ⟨xw 316 (by decide +kernel) rfl, xw 39 (by decide +kernel) rfl, by decide, by decide +kernel⟩
theorem csX0_writeLine : Cond.static yX0_writeLine ∈ XW := xw 315 (by decide +kernel) rfl
theorem lkX0_38 : Cond.methodLink RX0 38 yX0_isDigit ∈ XW := xw 403 (by decide +kernel) rfl
theorem lkX0_42 : Cond.methodLink RX0 42 yX0_isSmall ∈ XW := xw 406 (by decide +kernel) rfl
theorem lkX0_56 : Cond.methodLink RX0 56 yX0_signOf ∈ XW := xw 418 (by decide +kernel) rfl
theorem lkX0_45 : Cond.methodLink RX0 45 yX1_put ∈ XW := xw 388 (by decide +kernel) rfl
theorem lkX0_52 : Cond.methodLink RX0 52 yX0_capitalSigns ∈ XW := xw 412 (by decide +kernel) rfl
theorem flX2_38 : fl RX2 38 1 10 := ⟨by decide, by decide, xw 119 (by decide +kernel) rfl⟩
theorem flX2_18 : fl RX2 18 1 2 := ⟨by decide, by decide, xw 94 (by decide +kernel) rfl⟩
theorem pl_X2 : plainName RX2 = true := by decide +kernel
theorem lkX0_62 : Cond.methodLink RX0 62 yX1_clear ∈ XW := xw 317 (by decide +kernel) rfl
theorem lkX0_65 : Cond.methodLink RX0 65 yX2_levelNow ∈ XW := xw 321 (by decide +kernel) rfl
theorem flX0_70 : fl RX0 70 1 1 := ⟨by decide, by decide, xw 93 (by decide +kernel) rfl⟩
theorem lkX0_74 : Cond.methodLink RX0 74 yX2_kindWord ∈ XW := xw 325 (by decide +kernel) rfl
theorem lkX0_78 : Cond.methodLink RX0 78 yX0_firstPoints ∈ XW := xw 336 (by decide +kernel) rfl
theorem flX0_82 : fl RX0 82 1 5 := ⟨by decide, by decide, xw 105 (by decide +kernel) rfl⟩
theorem lkX0_86 : Cond.methodLink RX0 86 yX0_write ∈ XW := xw 392 (by decide +kernel) rfl
theorem flX0_90 : fl RX0 90 1 8 := ⟨by decide, by decide, xw 114 (by decide +kernel) rfl⟩
theorem flX0_94 : fl RX0 94 1 6 := ⟨by decide, by decide, xw 107 (by decide +kernel) rfl⟩
/-! BrailleDesk$Braille.write -/
theorem lX0_write_83 {G : gG} {Q : hQ} {P : hp → Prop} {k n : Nat} (c0 : (Option Nat)) (c1 : (Option Nat)) (c2 : Int32) (c3 : Int32) (c5 : Int32) (hJ : ∀ q : hp, P q → gV G mX0_write 2 Q 102 [some (sr c0), some (sr c1), some (si c2), some (si c3), none, none, none] [] (k) (n) q) : ∀ (fu : Nat) (a : (Int32 × hp)), okB (itr (fX0_write_B83 c0 c1 c2 c3 c5) fu a) P → gV G mX0_write 2 Q 83 [some (sr c0), some (sr c1), some (si c2), some (si c3), none, some (si c5), some (si a.1)] [] (k) (n) a.2 :=
  lpg (X := fun (a : (Int32 × hp)) => gV G mX0_write 2 Q 83 [some (sr c0), some (sr c1), some (si c2), some (si c3), none, some (si c5), some (si a.1)] [] (k) (n) a.2) (fun a P2 hL hE hF => by
    delta fX0_write_B83 at hF
    refine v_iload (pc := 83) (i := 6) dX0_write_83 rfl ?_
    refine v_iload (pc := 85) (i := 5) dX0_write_85 rfl ?_
    refine v_icmp_ge (pc := 87) 102 dX0_write_87 rfl (fun hc => ?_) (fun hc => ?_)
    · replace hF := (okB_if hF).1 hc
      exact v_lle [some (sr c0), some (sr c1), some (si c2), some (si c3), none, none, none] ⟨rfl, rfl, rfl, rfl, trivial⟩ (hJ a.2 (hE _ (okB_some hF)))
    replace hF := (okB_if hF).2 hc
    refine v_aload_n (pc := 90) (i := 0) dX0_write_90 rfl rfl ?_
    refine v_bipush (pc := 91) (v := (32 : Int32)) dX0_write_91 rfl ?_
    refine ch_V (pc := 93) gU (as := [si (32 : Int32)]) (st := []) (ci := 0) (N := mX1_put) (k := k) (n := n) (k1 := 0) (n1 := 0) dX0_write_93 lkX0_45 caX1_put cvX1_put rfl (by decide) rfl (fun b Q1 hq => tX1_put b (32 : Int32) a.2 Q1 hq) ⟨by decide, by decide⟩ (Nat.le_of_ble_eq_true rfl) rfl hF (fun x1 h2 hF => ?_)
    show gV G mX0_write 2 Q 96 [some (sr c0), some (sr c1), some (si c2), some (si c3), none, some (si c5), some (si a.1)] [] (k) (n) h2
    refine v_iinc (pc := 96) (i := 6) (a.1 + (1 : Int32)) [some (sr c0), some (sr c1), some (si c2), some (si c3), none, some (si c5), some (si (a.1 + (1 : Int32)))] dX0_write_96 rfl rfl rfl rfl ?_
    refine v_goto (pc := 99) 83 dX0_write_99 rfl ?_
    exact v_lle [some (sr c0), some (sr c1), some (si c2), some (si c3), none, some (si c5), some (si (a.1 + (1 : Int32)))] ⟨rfl, rfl, rfl, rfl, rfl, rfl, trivial⟩ (hL (a.1 + (1 : Int32), h2) (okB_some hF)))
theorem lX0_write_2 {G : gG} {Q : hQ} {P : hp → Prop} {k n : Nat} (c0 : (Option Nat)) (c1 : (Option Nat)) (hJ : ∀ q : hp, P q → gV G mX0_write 2 Q 173 [none, none, none, none, none, none, none] [] (k) (n) q) : ∀ (fu : Nat) (a : (Int32 × hp)), okB (itr (fX0_write_B2 c0 c1) fu a) P → gV G mX0_write 2 Q 2 [some (sr c0), some (sr c1), some (si a.1), none, none, none, none] [] (k) (n) a.2 :=
  lpg (X := fun (a : (Int32 × hp)) => gV G mX0_write 2 Q 2 [some (sr c0), some (sr c1), some (si a.1), none, none, none, none] [] (k) (n) a.2) (fun a P2 hL hE hF => by
    delta fX0_write_B2 at hF
    refine v_iload_n (pc := 2) (i := 2) dX0_write_2 rfl rfl ?_
    refine v_aload_n (pc := 3) (i := 1) dX0_write_3 rfl rfl ?_
    refine cp_V (pc := 4) gI (as := []) (st := [si a.1]) (ci := 0) (N := mX1_size) (k := k) (n := n) (k1 := 0) (n1 := 0) dX0_write_4 lkX0_29 caX1_size cvX1_size rfl (by decide) rfl (fun b Q1 hq => tX1_size b a.2 Q1 hq) ⟨by decide, by decide⟩ (Nat.le_of_ble_eq_true rfl) rfl hF (fun x1 hF => ?_)
    show gV G mX0_write 2 Q 7 [some (sr c0), some (sr c1), some (si a.1), none, none, none, none] [si x1, si a.1] (k) (n) a.2
    refine v_icmp_ge (pc := 7) 173 dX0_write_7 rfl (fun hc => ?_) (fun hc => ?_)
    · replace hF := (okB_if hF).1 hc
      exact v_lle [none, none, none, none, none, none, none] trivial (hJ a.2 (hE _ (okB_some hF)))
    replace hF := (okB_if hF).2 hc
    refine v_aload_n (pc := 10) (i := 1) dX0_write_10 rfl rfl ?_
    refine v_iload_n (pc := 11) (i := 2) dX0_write_11 rfl rfl ?_
    refine cp_V (pc := 12) gI (as := [si a.1]) (st := []) (ci := 0) (N := mX1_at) (k := k) (n := n) (k1 := 0) (n1 := 0) dX0_write_12 lkX0_35 caX1_at cvX1_at rfl (by decide) rfl (fun b Q1 hq => tX1_at b a.1 a.2 Q1 hq) ⟨by decide, by decide⟩ (Nat.le_of_ble_eq_true rfl) rfl hF (fun x2 hF => ?_)
    show gV G mX0_write 2 Q 15 [some (sr c0), some (sr c1), some (si a.1), none, none, none, none] [si x2] (k) (n) a.2
    refine v_istore_n (pc := 15) (i := 3) [some (sr c0), some (sr c1), some (si a.1), some (si x2), none, none, none] dX0_write_15 rfl (by decide) rfl rfl ?_
    refine v_aload_n (pc := 16) (i := 1) dX0_write_16 rfl rfl ?_
    refine v_iload_n (pc := 17) (i := 2) dX0_write_17 rfl rfl ?_
    refine v_iconst (pc := 18) (v := (1 : Int32)) dX0_write_18 rfl ?_
    refine v_isub (pc := 19) dX0_write_19 ?_
    refine cp_V (pc := 20) gI (as := [si (a.1 - (1 : Int32))]) (st := []) (ci := 0) (N := mX1_at) (k := k) (n := n) (k1 := 0) (n1 := 0) dX0_write_20 lkX0_35 caX1_at cvX1_at rfl (by decide) rfl (fun b Q1 hq => tX1_at b (a.1 - (1 : Int32)) a.2 Q1 hq) ⟨by decide, by decide⟩ (Nat.le_of_ble_eq_true rfl) rfl hF (fun x3 hF => ?_)
    show gV G mX0_write 2 Q 23 [some (sr c0), some (sr c1), some (si a.1), some (si x2), none, none, none] [si x3] (k) (n) a.2
    refine cp_S (pc := 23) gI (as := [si x3]) (st := []) (N := mX0_isDigit) (k := k) (n := n) (k1 := 0) (n1 := 0) dX0_write_23 lkX0_38 caX0_isDigit csX0_isDigit rfl (fun Q1 hq => tX0_isDigit x3 a.2 Q1 hq) ⟨by decide, by decide⟩ (Nat.le_of_ble_eq_true rfl) rfl hF (fun x4 hF => ?_)
    show gV G mX0_write 2 Q 26 [some (sr c0), some (sr c1), some (si a.1), some (si x2), none, none, none] [si x4] (k) (n) a.2
    refine v_istore (pc := 26) (i := 4) [some (sr c0), some (sr c1), some (si a.1), some (si x2), some (si x4), none, none] dX0_write_26 (by decide) rfl rfl ?_
    refine v_iload_n (pc := 28) (i := 3) dX0_write_28 rfl rfl ?_
    refine cp_S (pc := 29) gI (as := [si x2]) (st := []) (N := mX0_isSmall) (k := k) (n := n) (k1 := 0) (n1 := 0) dX0_write_29 lkX0_42 caX0_isSmall csX0_isSmall rfl (fun Q1 hq => tX0_isSmall x2 a.2 Q1 hq) ⟨by decide, by decide⟩ (Nat.le_of_ble_eq_true rfl) rfl hF (fun x5 hF => ?_)
    show gV G mX0_write 2 Q 32 [some (sr c0), some (sr c1), some (si a.1), some (si x2), some (si x4), none, none] [si x5] (k) (n) a.2
    refine v_if_eq (pc := 32) 66 dX0_write_32 rfl (fun hc => ?_) (fun hc => ?_)
    · replace hF := (okB_if hF).1 hc
      refine v_iload_n (pc := 66) (i := 3) dX0_write_66 rfl rfl ?_
      refine cp_S (pc := 67) gI (as := [si x2]) (st := []) (N := mX0_isCapital) (k := k) (n := n) (k1 := 0) (n1 := 0) dX0_write_67 lkX0_49 caX0_isCapital csX0_isCapital rfl (fun Q1 hq => tX0_isCapital x2 a.2 Q1 hq) ⟨by decide, by decide⟩ (Nat.le_of_ble_eq_true rfl) rfl hF (fun x6 hF => ?_)
      show gV G mX0_write 2 Q 70 [some (sr c0), some (sr c1), some (si a.1), some (si x2), some (si x4), none, none] [si x6] (k) (n) a.2
      refine v_if_eq (pc := 70) 116 dX0_write_70 rfl (fun hc => ?_) (fun hc => ?_)
      · replace hF := (okB_if hF).1 hc
        refine v_iload_n (pc := 116) (i := 3) dX0_write_116 rfl rfl ?_
        refine cp_S (pc := 117) gI (as := [si x2]) (st := []) (N := mX0_isDigit) (k := k) (n := n) (k1 := 0) (n1 := 0) dX0_write_117 lkX0_38 caX0_isDigit csX0_isDigit rfl (fun Q1 hq => tX0_isDigit x2 a.2 Q1 hq) ⟨by decide, by decide⟩ (Nat.le_of_ble_eq_true rfl) rfl hF (fun x7 hF => ?_)
        show gV G mX0_write 2 Q 120 [some (sr c0), some (sr c1), some (si a.1), some (si x2), some (si x4), none, none] [si x7] (k) (n) a.2
        refine v_if_eq (pc := 120) 159 dX0_write_120 rfl (fun hc => ?_) (fun hc => ?_)
        · replace hF := (okB_if hF).1 hc
          refine v_aload_n (pc := 159) (i := 0) dX0_write_159 rfl rfl ?_
          refine v_iload_n (pc := 160) (i := 3) dX0_write_160 rfl rfl ?_
          refine cp_S (pc := 161) gI (as := [si x2]) (st := [sr c0]) (N := mX0_signOf) (k := k) (n := n) (k1 := 0) (n1 := 0) dX0_write_161 lkX0_56 caX0_signOf csX0_signOf rfl (fun Q1 hq => tX0_signOf x2 a.2 Q1 hq) ⟨by decide, by decide⟩ (Nat.le_of_ble_eq_true rfl) rfl hF (fun x8 hF => ?_)
          show gV G mX0_write 2 Q 164 [some (sr c0), some (sr c1), some (si a.1), some (si x2), some (si x4), none, none] [si x8, sr c0] (k) (n) a.2
          refine ch_V (pc := 164) gU (as := [si x8]) (st := []) (ci := 0) (N := mX1_put) (k := k) (n := n) (k1 := 0) (n1 := 0) dX0_write_164 lkX0_45 caX1_put cvX1_put rfl (by decide) rfl (fun b Q1 hq => tX1_put b x8 a.2 Q1 hq) ⟨by decide, by decide⟩ (Nat.le_of_ble_eq_true rfl) rfl hF (fun x9 h10 hF => ?_)
          show gV G mX0_write 2 Q 167 [some (sr c0), some (sr c1), some (si a.1), some (si x2), some (si x4), none, none] [] (k) (n) h10
          refine v_iinc (pc := 167) (i := 2) (a.1 + (1 : Int32)) [some (sr c0), some (sr c1), some (si (a.1 + (1 : Int32))), some (si x2), some (si x4), none, none] dX0_write_167 rfl rfl rfl rfl ?_
          refine v_goto (pc := 170) 2 dX0_write_170 rfl ?_
          exact v_lle [some (sr c0), some (sr c1), some (si (a.1 + (1 : Int32))), none, none, none, none] ⟨rfl, rfl, rfl, trivial⟩ (hL (a.1 + (1 : Int32), h10) (okB_some hF))
        replace hF := (okB_if hF).2 hc
        refine v_iload (pc := 123) (i := 4) dX0_write_123 rfl ?_
        refine mg (X := fun q11 => gV G mX0_write 2 Q 134 [some (sr c0), some (sr c1), some (si a.1), some (si x2), none, none, none] [] (k) (n) q11) hF (fun _ hj12 hF => ?_) (fun q11 hF => ?_)
        · refine v_if_ne (pc := 125) 134 dX0_write_125 rfl (fun hc => ?_) (fun hc => ?_)
          · replace hF := (okB_if hF).2 hc
            exact v_lle [some (sr c0), some (sr c1), some (si a.1), some (si x2), none, none, none] ⟨rfl, rfl, rfl, rfl, trivial⟩ (hj12 a.2 (okB_some hF))
          replace hF := (okB_if hF).1 hc
          refine v_aload_n (pc := 128) (i := 0) dX0_write_128 rfl rfl ?_
          refine v_bipush (pc := 129) (v := (60 : Int32)) dX0_write_129 rfl ?_
          refine ch_V (pc := 131) gU (as := [si (60 : Int32)]) (st := []) (ci := 0) (N := mX1_put) (k := k) (n := n) (k1 := 0) (n1 := 0) dX0_write_131 lkX0_45 caX1_put cvX1_put rfl (by decide) rfl (fun b Q1 hq => tX1_put b (60 : Int32) a.2 Q1 hq) ⟨by decide, by decide⟩ (Nat.le_of_ble_eq_true rfl) rfl hF (fun x13 h14 hF => ?_)
          show gV G mX0_write 2 Q 134 [some (sr c0), some (sr c1), some (si a.1), some (si x2), some (si x4), none, none] [] (k) (n) h14
          exact v_lle [some (sr c0), some (sr c1), some (si a.1), some (si x2), none, none, none] ⟨rfl, rfl, rfl, rfl, trivial⟩ (hj12 h14 (okB_some hF))
        refine v_aload_n (pc := 134) (i := 0) dX0_write_134 rfl rfl ?_
        refine v_iload_n (pc := 135) (i := 3) dX0_write_135 rfl rfl ?_
        refine v_bipush (pc := 136) (v := (48 : Int32)) dX0_write_136 rfl ?_
        refine mg (X := fun q15 => gV G mX0_write 2 Q 150 [some (sr c0), some (sr c1), some (si a.1), none, none, none, none] [si q15, sr c0] (k) (n) q11) hF (fun _ hj16 hF => ?_) (fun q15 hF => ?_)
        · refine v_icmp_ne (pc := 138) 146 dX0_write_138 rfl (fun hc => ?_) (fun hc => ?_)
          · replace hF := (okB_if hF).2 hc
            refine v_iload_n (pc := 146) (i := 3) dX0_write_146 rfl rfl ?_
            refine v_bipush (pc := 147) (v := (49 : Int32)) dX0_write_147 rfl ?_
            refine v_isub (pc := 149) dX0_write_149 ?_
            exact v_lle [some (sr c0), some (sr c1), some (si a.1), none, none, none, none] ⟨rfl, rfl, rfl, trivial⟩ (hj16 (x2 - (49 : Int32)) (okB_some hF))
          replace hF := (okB_if hF).1 hc
          refine v_bipush (pc := 141) (v := (9 : Int32)) dX0_write_141 rfl ?_
          refine v_goto (pc := 143) 150 dX0_write_143 rfl ?_
          exact v_lle [some (sr c0), some (sr c1), some (si a.1), none, none, none, none] ⟨rfl, rfl, rfl, trivial⟩ (hj16 (9 : Int32) (okB_some hF))
        refine cp_S (pc := 150) gI (as := [si q15]) (st := [sr c0]) (N := mX0_pointsOf) (k := k) (n := n) (k1 := 0) (n1 := 0) dX0_write_150 lkX0_25 caX0_pointsOf csX0_pointsOf rfl (fun Q1 hq => tX0_pointsOf q15 q11 Q1 hq) ⟨by decide, by decide⟩ (Nat.le_of_ble_eq_true rfl) rfl hF (fun x17 hF => ?_)
        show gV G mX0_write 2 Q 153 [some (sr c0), some (sr c1), some (si a.1), none, none, none, none] [si x17, sr c0] (k) (n) q11
        refine ch_V (pc := 153) gU (as := [si x17]) (st := []) (ci := 0) (N := mX1_put) (k := k) (n := n) (k1 := 0) (n1 := 0) dX0_write_153 lkX0_45 caX1_put cvX1_put rfl (by decide) rfl (fun b Q1 hq => tX1_put b x17 q11 Q1 hq) ⟨by decide, by decide⟩ (Nat.le_of_ble_eq_true rfl) rfl hF (fun x18 h19 hF => ?_)
        show gV G mX0_write 2 Q 156 [some (sr c0), some (sr c1), some (si a.1), none, none, none, none] [] (k) (n) h19
        refine v_goto (pc := 156) 167 dX0_write_156 rfl ?_
        refine v_iinc (pc := 167) (i := 2) (a.1 + (1 : Int32)) [some (sr c0), some (sr c1), some (si (a.1 + (1 : Int32))), none, none, none, none] dX0_write_167 rfl rfl rfl rfl ?_
        refine v_goto (pc := 170) 2 dX0_write_170 rfl ?_
        exact v_lle [some (sr c0), some (sr c1), some (si (a.1 + (1 : Int32))), none, none, none, none] ⟨rfl, rfl, rfl, trivial⟩ (hL (a.1 + (1 : Int32), h19) (okB_some hF))
      replace hF := (okB_if hF).2 hc
      refine v_aload_n (pc := 73) (i := 1) dX0_write_73 rfl rfl ?_
      refine v_iload_n (pc := 74) (i := 2) dX0_write_74 rfl rfl ?_
      refine cp_S (pc := 75) gI (as := [sr c1, si a.1]) (st := []) (N := mX0_capitalSigns) (k := k) (n := n) (k1 := 0) (n1 := 0) dX0_write_75 lkX0_52 caX0_capitalSigns csX0_capitalSigns rfl (fun Q1 hq => tX0_capitalSigns c1 a.1 a.2 Q1 hq) ⟨by decide, by decide⟩ (Nat.le_of_ble_eq_true rfl) rfl hF (fun x20 hF => ?_)
      show gV G mX0_write 2 Q 78 [some (sr c0), some (sr c1), some (si a.1), some (si x2), some (si x4), none, none] [si x20] (k) (n) a.2
      refine v_istore (pc := 78) (i := 5) [some (sr c0), some (sr c1), some (si a.1), some (si x2), some (si x4), some (si x20), none] dX0_write_78 (by decide) rfl rfl ?_
      refine v_iconst (pc := 80) (v := (0 : Int32)) dX0_write_80 rfl ?_
      refine v_istore (pc := 81) (i := 6) [some (sr c0), some (sr c1), some (si a.1), some (si x2), some (si x4), some (si x20), some (si (0 : Int32))] dX0_write_81 (by decide) rfl rfl ?_
      refine mg (X := fun q21 => gV G mX0_write 2 Q 102 [some (sr c0), some (sr c1), some (si a.1), some (si x2), none, none, none] [] (k) (n) q21) hF (fun _ hj25 hF => v_lle [some (sr c0), some (sr c1), some (si a.1), some (si x2), none, some (si x20), some (si (0 : Int32))] ⟨rfl, rfl, rfl, rfl, rfl, rfl, trivial⟩ (lX0_write_83 c0 c1 a.1 x2 x20 hj25 FU ((0 : Int32), a.2) hF)) (fun q21 hF => ?_)
      refine v_aload_n (pc := 102) (i := 0) dX0_write_102 rfl rfl ?_
      refine v_iload_n (pc := 103) (i := 3) dX0_write_103 rfl rfl ?_
      refine v_bipush (pc := 104) (v := (65 : Int32)) dX0_write_104 rfl ?_
      refine v_isub (pc := 106) dX0_write_106 ?_
      refine cp_S (pc := 107) gI (as := [si (x2 - (65 : Int32))]) (st := [sr c0]) (N := mX0_pointsOf) (k := k) (n := n) (k1 := 0) (n1 := 0) dX0_write_107 lkX0_25 caX0_pointsOf csX0_pointsOf rfl (fun Q1 hq => tX0_pointsOf (x2 - (65 : Int32)) q21 Q1 hq) ⟨by decide, by decide⟩ (Nat.le_of_ble_eq_true rfl) rfl hF (fun x22 hF => ?_)
      show gV G mX0_write 2 Q 110 [some (sr c0), some (sr c1), some (si a.1), some (si x2), none, none, none] [si x22, sr c0] (k) (n) q21
      refine ch_V (pc := 110) gU (as := [si x22]) (st := []) (ci := 0) (N := mX1_put) (k := k) (n := n) (k1 := 0) (n1 := 0) dX0_write_110 lkX0_45 caX1_put cvX1_put rfl (by decide) rfl (fun b Q1 hq => tX1_put b x22 q21 Q1 hq) ⟨by decide, by decide⟩ (Nat.le_of_ble_eq_true rfl) rfl hF (fun x23 h24 hF => ?_)
      show gV G mX0_write 2 Q 113 [some (sr c0), some (sr c1), some (si a.1), some (si x2), none, none, none] [] (k) (n) h24
      refine v_goto (pc := 113) 167 dX0_write_113 rfl ?_
      refine v_iinc (pc := 167) (i := 2) (a.1 + (1 : Int32)) [some (sr c0), some (sr c1), some (si (a.1 + (1 : Int32))), some (si x2), none, none, none] dX0_write_167 rfl rfl rfl rfl ?_
      refine v_goto (pc := 170) 2 dX0_write_170 rfl ?_
      exact v_lle [some (sr c0), some (sr c1), some (si (a.1 + (1 : Int32))), none, none, none, none] ⟨rfl, rfl, rfl, trivial⟩ (hL (a.1 + (1 : Int32), h24) (okB_some hF))
    replace hF := (okB_if hF).2 hc
    refine v_iload_n (pc := 35) (i := 3) dX0_write_35 rfl rfl ?_
    refine v_bipush (pc := 36) (v := (106 : Int32)) dX0_write_36 rfl ?_
    refine mg (X := fun q26 => gV G mX0_write 2 Q 52 [some (sr c0), some (sr c1), some (si a.1), some (si x2), none, none, none] [] (k) (n) q26) hF (fun _ hj27 hF => ?_) (fun q26 hF => ?_)
    · refine v_icmp_gt (pc := 38) 52 dX0_write_38 rfl (fun hc => ?_) (fun hc => ?_)
      · replace hF := (okB_if hF).1 hc
        exact v_lle [some (sr c0), some (sr c1), some (si a.1), some (si x2), none, none, none] ⟨rfl, rfl, rfl, rfl, trivial⟩ (hj27 a.2 (okB_some hF))
      replace hF := (okB_if hF).2 hc
      refine v_iload (pc := 41) (i := 4) dX0_write_41 rfl ?_
      refine v_if_eq (pc := 43) 52 dX0_write_43 rfl (fun hc => ?_) (fun hc => ?_)
      · replace hF := (okB_if hF).1 hc
        exact v_lle [some (sr c0), some (sr c1), some (si a.1), some (si x2), none, none, none] ⟨rfl, rfl, rfl, rfl, trivial⟩ (hj27 a.2 (okB_some hF))
      replace hF := (okB_if hF).2 hc
      refine v_aload_n (pc := 46) (i := 0) dX0_write_46 rfl rfl ?_
      refine v_bipush (pc := 47) (v := (48 : Int32)) dX0_write_47 rfl ?_
      refine ch_V (pc := 49) gU (as := [si (48 : Int32)]) (st := []) (ci := 0) (N := mX1_put) (k := k) (n := n) (k1 := 0) (n1 := 0) dX0_write_49 lkX0_45 caX1_put cvX1_put rfl (by decide) rfl (fun b Q1 hq => tX1_put b (48 : Int32) a.2 Q1 hq) ⟨by decide, by decide⟩ (Nat.le_of_ble_eq_true rfl) rfl hF (fun x28 h29 hF => ?_)
      show gV G mX0_write 2 Q 52 [some (sr c0), some (sr c1), some (si a.1), some (si x2), some (si x4), none, none] [] (k) (n) h29
      exact v_lle [some (sr c0), some (sr c1), some (si a.1), some (si x2), none, none, none] ⟨rfl, rfl, rfl, rfl, trivial⟩ (hj27 h29 (okB_some hF))
    refine v_aload_n (pc := 52) (i := 0) dX0_write_52 rfl rfl ?_
    refine v_iload_n (pc := 53) (i := 3) dX0_write_53 rfl rfl ?_
    refine v_bipush (pc := 54) (v := (97 : Int32)) dX0_write_54 rfl ?_
    refine v_isub (pc := 56) dX0_write_56 ?_
    refine cp_S (pc := 57) gI (as := [si (x2 - (97 : Int32))]) (st := [sr c0]) (N := mX0_pointsOf) (k := k) (n := n) (k1 := 0) (n1 := 0) dX0_write_57 lkX0_25 caX0_pointsOf csX0_pointsOf rfl (fun Q1 hq => tX0_pointsOf (x2 - (97 : Int32)) q26 Q1 hq) ⟨by decide, by decide⟩ (Nat.le_of_ble_eq_true rfl) rfl hF (fun x30 hF => ?_)
    show gV G mX0_write 2 Q 60 [some (sr c0), some (sr c1), some (si a.1), some (si x2), none, none, none] [si x30, sr c0] (k) (n) q26
    refine ch_V (pc := 60) gU (as := [si x30]) (st := []) (ci := 0) (N := mX1_put) (k := k) (n := n) (k1 := 0) (n1 := 0) dX0_write_60 lkX0_45 caX1_put cvX1_put rfl (by decide) rfl (fun b Q1 hq => tX1_put b x30 q26 Q1 hq) ⟨by decide, by decide⟩ (Nat.le_of_ble_eq_true rfl) rfl hF (fun x31 h32 hF => ?_)
    show gV G mX0_write 2 Q 63 [some (sr c0), some (sr c1), some (si a.1), some (si x2), none, none, none] [] (k) (n) h32
    refine v_goto (pc := 63) 167 dX0_write_63 rfl ?_
    refine v_iinc (pc := 167) (i := 2) (a.1 + (1 : Int32)) [some (sr c0), some (sr c1), some (si (a.1 + (1 : Int32))), some (si x2), none, none, none] dX0_write_167 rfl rfl rfl rfl ?_
    refine v_goto (pc := 170) 2 dX0_write_170 rfl ?_
    exact v_lle [some (sr c0), some (sr c1), some (si (a.1 + (1 : Int32))), none, none, none, none] ⟨rfl, rfl, rfl, trivial⟩ (hL (a.1 + (1 : Int32), h32) (okB_some hF)))
theorem tX0_write {G : gG} (a0 : (Option Nat)) (a1 : (Option Nat)) (h : hp) (Q : hQ) (hF : okB (fX0_write a0 a1 h) (pH gU Q)) : gS G mX0_write 2 0 0 [sr a0, sr a1] h Q := by
  delta fX0_write at hF
  refine gS_at [some (sr a0), some (sr a1), none, none, none, none, none] pl_X0 rfl (Nat.le_of_ble_eq_true rfl) rfl ?_
  refine v_iconst (pc := 0) (v := (0 : Int32)) dX0_write_0 rfl ?_
  refine v_istore_n (pc := 1) (i := 2) [some (sr a0), some (sr a1), some (si (0 : Int32)), none, none, none, none] dX0_write_1 rfl (by decide) rfl rfl ?_
  refine mg (X := fun q1 => gV G mX0_write 2 Q 173 [none, none, none, none, none, none, none] [] (0) (0) q1) hF (fun _ hj2 hF => v_lle [some (sr a0), some (sr a1), some (si (0 : Int32)), none, none, none, none] ⟨rfl, rfl, rfl, trivial⟩ (lX0_write_2 a0 a1 hj2 FU ((0 : Int32), h) hF)) (fun q1 hF => ?_)
  exact v_ret (pc := 173) dX0_write_173 rfl (okr hF fun q => q)
/-! BrailleDesk$Element.levelNow -/
theorem lX2_levelNow_2 {G : gG} {Q : hQ} {P : (Int32 ⊕ Unit) → Prop} {k n : Nat} (h : hp) (hJ : ∀ q : Unit, P (.inr q) → gV G mX2_levelNow 0 Q 27 [none, none] [] (k) (n) h) (hR : ∀ r : Int32, P (.inl (r)) → (pP gI Q h) r) : ∀ (fu : Nat) (a : (Option Nat)), okB (itr (fX2_levelNow_B2 h) fu a) P → gV G mX2_levelNow 0 Q 2 [none, some (sr a)] [] (k) (n) h :=
  lpg (X := fun (a : (Option Nat)) => gV G mX2_levelNow 0 Q 2 [none, some (sr a)] [] (k) (n) h) (fun a P2 hL hE hF => by
    delta fX2_levelNow_B2 at hF
    refine v_aload_n (pc := 2) (i := 1) dX2_levelNow_2 rfl rfl ?_
    refine s_ifnull (pc := 3) 27 dX2_levelNow_3 rfl hF (fun hF => ?_) (fun hF => ?_)
    · exact v_lle [none, none] trivial (hJ () (hE _ (okB_some hF)))
    refine v_aload_n (pc := 6) (i := 1) dX2_levelNow_6 rfl rfl ?_
    refine s_getI (pc := 7) dX2_levelNow_7 flX2_38 rfl hF (fun x1 hF => ?_)
    refine v_iconst (pc := 10) (v := (-1 : Int32)) dX2_levelNow_10 rfl ?_
    refine v_icmp_eq (pc := 11) 19 dX2_levelNow_11 rfl (fun hc => ?_) (fun hc => ?_)
    · replace hF := (okB_if hF).1 hc
      refine v_aload_n (pc := 19) (i := 1) dX2_levelNow_19 rfl rfl ?_
      refine s_getR (pc := 20) dX2_levelNow_20 flX2_18 rfl hF (fun x2 hF => ?_)
      refine v_astore_n (pc := 23) (i := 1) [none, some (sr x2)] dX2_levelNow_23 rfl (by decide) rfl rfl ?_
      refine v_goto (pc := 24) 2 dX2_levelNow_24 rfl ?_
      exact v_lle [none, some (sr x2)] ⟨rfl, trivial⟩ (hL x2 (okB_some hF))
    replace hF := (okB_if hF).2 hc
    refine v_aload_n (pc := 14) (i := 1) dX2_levelNow_14 rfl rfl ?_
    refine s_getI (pc := 15) dX2_levelNow_15 flX2_38 rfl hF (fun x3 hF => ?_)
    exact v_iret (pc := 18) dX2_levelNow_18 rfl rfl (hR _ (hE _ (okB_some hF))))
theorem tX2_levelNow {G : gG} (a0 : Nat) (h : hp) (Q : hQ) (hF : okB (fX2_levelNow a0 h) (pP gI Q h)) : gS G mX2_levelNow 0 0 0 [sr (some a0)] h Q := by
  delta fX2_levelNow at hF
  refine gS_at [some (sr (some a0)), none] pl_X2 rfl (Nat.le_of_ble_eq_true rfl) rfl ?_
  refine v_aload_n (pc := 0) (i := 0) dX2_levelNow_0 rfl rfl ?_
  refine v_astore_n (pc := 1) (i := 1) [some (sr (some a0)), some (sr (some a0))] dX2_levelNow_1 rfl (by decide) rfl rfl ?_
  refine mgR (X := fun q1 => gV G mX2_levelNow 0 Q 27 [none, none] [] (0) (0) h) hF (fun _ hj2 hr2 hF => v_lle [none, some (sr (some a0))] ⟨rfl, trivial⟩ (lX2_levelNow_2 h hj2 (fun _ hp => (hr2 _ hp)) FU (some a0) hF)) (fun q1 hF => ?_)
  refine v_iconst (pc := 27) (v := (1 : Int32)) dX2_levelNow_27 rfl ?_
  exact v_iret (pc := 28) dX2_levelNow_28 rfl rfl (okr hF fun q => q)
/-! BrailleDesk$Element.kindWord -/
theorem tX2_kindWord {G : gG} (a0 : Int32) (h : hp) (Q : hQ) (hF : okB (fX2_kindWord a0) (pP (gT G) Q h)) : gS G mX2_kindWord 0 0 0 [si a0] h Q := by
  delta fX2_kindWord at hF
  refine gS_at [some (si a0)] pl_X2 rfl (Nat.le_of_ble_eq_true rfl) rfl ?_
  refine v_iload_n (pc := 0) (i := 0) dX2_kindWord_0 rfl rfl ?_
  by_cases hc0 : a0 = (0 : Int32)
  · replace hF := (okB_if hF).1 hc0
    refine v_tableIn (pc := 1) 48 dX2_kindWord_1 (by rw [hc0]; first | done | decide) (by rw [hc0]; first | done | decide) (by rw [hc0]; first | done | rfl) rfl ?_
    refine v_ldcS (pc := 48) 0 dX2_kindWord_48 rfl ?_
    exact v_aret (pc := 50) dX2_kindWord_50 rfl (Or.inl ⟨_, rfl⟩) (okr hF fun q => q)
  replace hF := (okB_if hF).2 hc0
  by_cases hc2 : a0 = (2 : Int32)
  · replace hF := (okB_if hF).1 hc2
    refine v_tableIn (pc := 1) 51 dX2_kindWord_1 (by rw [hc2]; first | done | decide) (by rw [hc2]; first | done | decide) (by rw [hc2]; first | done | rfl) rfl ?_
    refine v_ldcS (pc := 51) 1 dX2_kindWord_51 rfl ?_
    exact v_aret (pc := 53) dX2_kindWord_53 rfl (Or.inl ⟨_, rfl⟩) (okr hF fun q => q)
  replace hF := (okB_if hF).2 hc2
  by_cases hc3 : a0 = (3 : Int32)
  · replace hF := (okB_if hF).1 hc3
    refine v_tableIn (pc := 1) 54 dX2_kindWord_1 (by rw [hc3]; first | done | decide) (by rw [hc3]; first | done | decide) (by rw [hc3]; first | done | rfl) rfl ?_
    refine v_ldcS (pc := 54) 2 dX2_kindWord_54 rfl ?_
    exact v_aret (pc := 56) dX2_kindWord_56 rfl (Or.inl ⟨_, rfl⟩) (okr hF fun q => q)
  replace hF := (okB_if hF).2 hc3
  by_cases hc4 : a0 = (4 : Int32)
  · replace hF := (okB_if hF).1 hc4
    refine v_tableIn (pc := 1) 57 dX2_kindWord_1 (by rw [hc4]; first | done | decide) (by rw [hc4]; first | done | decide) (by rw [hc4]; first | done | rfl) rfl ?_
    refine v_ldcS (pc := 57) 3 dX2_kindWord_57 rfl ?_
    exact v_aret (pc := 59) dX2_kindWord_59 rfl (Or.inl ⟨_, rfl⟩) (okr hF fun q => q)
  replace hF := (okB_if hF).2 hc4
  by_cases hc5 : a0 = (5 : Int32)
  · replace hF := (okB_if hF).1 hc5
    refine v_tableIn (pc := 1) 60 dX2_kindWord_1 (by rw [hc5]; first | done | decide) (by rw [hc5]; first | done | decide) (by rw [hc5]; first | done | rfl) rfl ?_
    refine v_ldcS (pc := 60) 4 dX2_kindWord_60 rfl ?_
    exact v_aret (pc := 62) dX2_kindWord_62 rfl (Or.inl ⟨_, rfl⟩) (okr hF fun q => q)
  replace hF := (okB_if hF).2 hc5
  by_cases hc6 : a0 = (6 : Int32)
  · replace hF := (okB_if hF).1 hc6
    refine v_tableIn (pc := 1) 63 dX2_kindWord_1 (by rw [hc6]; first | done | decide) (by rw [hc6]; first | done | decide) (by rw [hc6]; first | done | rfl) rfl ?_
    refine v_ldcS (pc := 63) 5 dX2_kindWord_63 rfl ?_
    exact v_aret (pc := 65) dX2_kindWord_65 rfl (Or.inl ⟨_, rfl⟩) (okr hF fun q => q)
  replace hF := (okB_if hF).2 hc6
  by_cases hc7 : a0 = (7 : Int32)
  · replace hF := (okB_if hF).1 hc7
    refine v_tableIn (pc := 1) 66 dX2_kindWord_1 (by rw [hc7]; first | done | decide) (by rw [hc7]; first | done | decide) (by rw [hc7]; first | done | rfl) rfl ?_
    refine v_ldcS (pc := 66) 6 dX2_kindWord_66 rfl ?_
    exact v_aret (pc := 68) dX2_kindWord_68 rfl (Or.inl ⟨_, rfl⟩) (okr hF fun q => q)
  replace hF := (okB_if hF).2 hc7
  refine v_tableD (pc := 1) 69 dX2_kindWord_1 (fun i hi hx => ?_) rfl ?_
  · have hi : i = 0 ∨ i = 1 ∨ i = 2 ∨ i = 3 ∨ i = 4 ∨ i = 5 ∨ i = 6 ∨ i = 7 := by omega
    rcases hi with rfl | rfl | rfl | rfl | rfl | rfl | rfl | rfl
    · exact absurd hx (fun e => hc0 (Int32.toInt_inj.mp (e.trans (by decide))))
    · rfl
    · exact absurd hx (fun e => hc2 (Int32.toInt_inj.mp (e.trans (by decide))))
    · exact absurd hx (fun e => hc3 (Int32.toInt_inj.mp (e.trans (by decide))))
    · exact absurd hx (fun e => hc4 (Int32.toInt_inj.mp (e.trans (by decide))))
    · exact absurd hx (fun e => hc5 (Int32.toInt_inj.mp (e.trans (by decide))))
    · exact absurd hx (fun e => hc6 (Int32.toInt_inj.mp (e.trans (by decide))))
    · exact absurd hx (fun e => hc7 (Int32.toInt_inj.mp (e.trans (by decide))))
  refine v_ldcS (pc := 69) 7 dX2_kindWord_69 rfl ?_
  exact v_aret (pc := 71) dX2_kindWord_71 rfl (Or.inl ⟨_, rfl⟩) (okr hF fun q => q)
/-! BrailleDesk$Braille.writeLine -/
theorem tX0_writeLine {G : gG} (a0 : (Option Nat)) (a1 : (Option Nat)) (a2 : Int32) (h : hp) (Q : hQ) (hF : okB (fX0_writeLine a0 a1 a2 h) (pH gU Q)) : gS G mX0_writeLine 5 0 0 [sr a0, sr a1, si a2] h Q := by
  delta fX0_writeLine at hF
  refine gS_at [some (sr a0), some (sr a1), some (si a2)] pl_X0 rfl (Nat.le_of_ble_eq_true rfl) rfl ?_
  refine v_aload_n (pc := 0) (i := 0) dX0_writeLine_0 rfl rfl ?_
  refine ch_V (pc := 1) gU (as := []) (st := []) (ci := 0) (N := mX1_clear) (k := 0) (n := 0) (k1 := 0) (n1 := 0) dX0_writeLine_1 lkX0_62 caX1_clear cvX1_clear rfl (by decide) rfl (fun b Q1 hq => tX1_clear b h Q1 hq) ⟨by decide, by decide⟩ (Nat.le_of_ble_eq_true rfl) rfl hF (fun x1 h2 hF => ?_)
  show gV G mX0_writeLine 5 Q 4 [some (sr a0), some (sr a1), some (si a2)] [] (0) (0) h2
  refine v_aload_n (pc := 4) (i := 1) dX0_writeLine_4 rfl rfl ?_
  refine cp_V (pc := 5) gI (as := []) (st := []) (ci := 1) (N := mX2_levelNow) (k := 0) (n := 0) (k1 := 0) (n1 := 0) dX0_writeLine_5 lkX0_65 caX2_levelNow cvX2_levelNow rfl (by decide) rfl (fun b Q1 hq => tX2_levelNow b h2 Q1 hq) ⟨by decide, by decide⟩ (Nat.le_of_ble_eq_true rfl) rfl hF (fun x3 hF => ?_)
  show gV G mX0_writeLine 5 Q 8 [some (sr a0), some (sr a1), some (si a2)] [si x3] (0) (0) h2
  refine mg (X := fun q4 => gV G mX0_writeLine 5 Q 37 [some (sr a0), some (sr a1), some (si a2)] [] (0) (0) q4) hF (fun _ hj5 hF => ?_) (fun q4 hF => ?_)
  · refine v_if_eq (pc := 8) 37 dX0_writeLine_8 rfl (fun hc => ?_) (fun hc => ?_)
    · replace hF := (okB_if hF).1 hc
      exact v_lle [some (sr a0), some (sr a1), some (si a2)] ⟨rfl, rfl, rfl, trivial⟩ (hj5 h2 (okB_some hF))
    replace hF := (okB_if hF).2 hc
    refine v_aload_n (pc := 11) (i := 1) dX0_writeLine_11 rfl rfl ?_
    refine s_getI (pc := 12) dX0_writeLine_12 flX0_70 rfl hF (fun x6 hF => ?_)
    refine v_iconst (pc := 15) (v := (1 : Int32)) dX0_writeLine_15 rfl ?_
    refine v_icmp_eq (pc := 16) 37 dX0_writeLine_16 rfl (fun hc => ?_) (fun hc => ?_)
    · replace hF := (okB_if hF).1 hc
      exact v_lle [some (sr a0), some (sr a1), some (si a2)] ⟨rfl, rfl, rfl, trivial⟩ (hj5 h2 (okB_some hF))
    replace hF := (okB_if hF).2 hc
    refine v_aload_n (pc := 19) (i := 0) dX0_writeLine_19 rfl rfl ?_
    refine v_aload_n (pc := 20) (i := 1) dX0_writeLine_20 rfl rfl ?_
    refine s_getI (pc := 21) dX0_writeLine_21 flX0_70 rfl hF (fun x7 hF => ?_)
    refine cp_S (pc := 24) (gT G) (as := [si x7]) (st := [sr a0]) (N := mX2_kindWord) (k := 0) (n := 0) (k1 := 0) (n1 := 0) dX0_writeLine_24 lkX0_74 caX2_kindWord csX2_kindWord rfl (fun Q1 hq => tX2_kindWord x7 h2 Q1 hq) ⟨by decide, by decide⟩ (Nat.le_of_ble_eq_true rfl) rfl hF (fun x8 hF => ?_)
    show gV G mX0_writeLine 5 Q 27 [some (sr a0), some (sr a1), some (si a2)] [sr (some (ga G x8)), sr a0] (0) (0) h2
    refine cp_S (pc := 27) gI (as := [sr (some (ga G x8))]) (st := [sr a0]) (N := mX0_firstPoints) (k := 0) (n := 0) (k1 := 0) (n1 := 0) dX0_writeLine_27 lkX0_78 caX0_firstPoints csX0_firstPoints rfl (fun Q1 hq => tX0_firstPoints x8 h2 Q1 hq) ⟨by decide, by decide⟩ (Nat.le_of_ble_eq_true rfl) rfl hF (fun x9 hF => ?_)
    show gV G mX0_writeLine 5 Q 30 [some (sr a0), some (sr a1), some (si a2)] [si x9, sr a0] (0) (0) h2
    refine v_sipush (pc := 30) (v := (192 : Int32)) dX0_writeLine_30 rfl ?_
    refine v_ior (pc := 33) dX0_writeLine_33 ?_
    refine ch_V (pc := 34) gU (as := [si (x9 ||| (192 : Int32))]) (st := []) (ci := 0) (N := mX1_put) (k := 0) (n := 0) (k1 := 0) (n1 := 0) dX0_writeLine_34 lkX0_45 caX1_put cvX1_put rfl (by decide) rfl (fun b Q1 hq => tX1_put b (x9 ||| (192 : Int32)) h2 Q1 hq) ⟨by decide, by decide⟩ (Nat.le_of_ble_eq_true rfl) rfl hF (fun x10 h11 hF => ?_)
    show gV G mX0_writeLine 5 Q 37 [some (sr a0), some (sr a1), some (si a2)] [] (0) (0) h11
    exact v_lle [some (sr a0), some (sr a1), some (si a2)] ⟨rfl, rfl, rfl, trivial⟩ (hj5 h11 (okB_some hF))
  refine v_aload_n (pc := 37) (i := 0) dX0_writeLine_37 rfl rfl ?_
  refine v_aload_n (pc := 38) (i := 1) dX0_writeLine_38 rfl rfl ?_
  refine s_getR (pc := 39) dX0_writeLine_39 flX0_82 rfl hF (fun x12 hF => ?_)
  refine ch_S (pc := 42) gU (as := [sr a0, sr x12]) (st := []) (N := mX0_write) (k := 0) (n := 0) (k1 := 0) (n1 := 0) dX0_writeLine_42 lkX0_86 caX0_write csX0_write rfl (fun Q1 hq => tX0_write a0 x12 q4 Q1 hq) ⟨by decide, by decide⟩ (Nat.le_of_ble_eq_true rfl) rfl hF (fun x13 h14 hF => ?_)
  show gV G mX0_writeLine 5 Q 45 [some (sr a0), some (sr a1), some (si a2)] [] (0) (0) h14
  refine v_aload_n (pc := 45) (i := 1) dX0_writeLine_45 rfl rfl ?_
  refine s_getI (pc := 46) dX0_writeLine_46 flX0_70 rfl hF (fun x15 hF => ?_)
  refine v_iconst (pc := 49) (v := (3 : Int32)) dX0_writeLine_49 rfl ?_
  refine mg (X := fun q16 => gV G mX0_writeLine 5 Q 76 [some (sr a0), some (sr a1), some (si a2)] [] (0) (0) q16) hF (fun _ hj17 hF => ?_) (fun q16 hF => ?_)
  · refine v_icmp_ne (pc := 50) 76 dX0_writeLine_50 rfl (fun hc => ?_) (fun hc => ?_)
    · replace hF := (okB_if hF).2 hc
      exact v_lle [some (sr a0), some (sr a1), some (si a2)] ⟨rfl, rfl, rfl, trivial⟩ (hj17 h14 (okB_some hF))
    replace hF := (okB_if hF).1 hc
    refine v_aload_n (pc := 53) (i := 0) dX0_writeLine_53 rfl rfl ?_
    refine v_iconst (pc := 54) (v := (0 : Int32)) dX0_writeLine_54 rfl ?_
    refine ch_V (pc := 55) gU (as := [si (0 : Int32)]) (st := []) (ci := 0) (N := mX1_put) (k := 0) (n := 0) (k1 := 0) (n1 := 0) dX0_writeLine_55 lkX0_45 caX1_put cvX1_put rfl (by decide) rfl (fun b Q1 hq => tX1_put b (0 : Int32) h14 Q1 hq) ⟨by decide, by decide⟩ (Nat.le_of_ble_eq_true rfl) rfl hF (fun x18 h19 hF => ?_)
    show gV G mX0_writeLine 5 Q 58 [some (sr a0), some (sr a1), some (si a2)] [] (0) (0) h19
    refine v_aload_n (pc := 58) (i := 0) dX0_writeLine_58 rfl rfl ?_
    refine v_aload_n (pc := 59) (i := 1) dX0_writeLine_59 rfl rfl ?_
    refine s_getI (pc := 60) dX0_writeLine_60 flX0_90 rfl hF (fun x20 hF => ?_)
    refine v_if_eq (pc := 63) 71 dX0_writeLine_63 rfl (fun hc => ?_) (fun hc => ?_)
    · replace hF := (okB_if hF).1 hc
      refine v_bipush (pc := 71) (v := (36 : Int32)) dX0_writeLine_71 rfl ?_
      refine ch_V (pc := 73) gU (as := [si (36 : Int32)]) (st := []) (ci := 0) (N := mX1_put) (k := 0) (n := 0) (k1 := 0) (n1 := 0) dX0_writeLine_73 lkX0_45 caX1_put cvX1_put rfl (by decide) rfl (fun b Q1 hq => tX1_put b (36 : Int32) h19 Q1 hq) ⟨by decide, by decide⟩ (Nat.le_of_ble_eq_true rfl) rfl hF (fun x21 h22 hF => ?_)
      show gV G mX0_writeLine 5 Q 76 [some (sr a0), some (sr a1), some (si a2)] [] (0) (0) h22
      exact v_lle [some (sr a0), some (sr a1), some (si a2)] ⟨rfl, rfl, rfl, trivial⟩ (hj17 h22 (okB_some hF))
    replace hF := (okB_if hF).2 hc
    refine v_bipush (pc := 66) (v := (63 : Int32)) dX0_writeLine_66 rfl ?_
    refine v_goto (pc := 68) 73 dX0_writeLine_68 rfl ?_
    refine ch_V (pc := 73) gU (as := [si (63 : Int32)]) (st := []) (ci := 0) (N := mX1_put) (k := 0) (n := 0) (k1 := 0) (n1 := 0) dX0_writeLine_73 lkX0_45 caX1_put cvX1_put rfl (by decide) rfl (fun b Q1 hq => tX1_put b (63 : Int32) h19 Q1 hq) ⟨by decide, by decide⟩ (Nat.le_of_ble_eq_true rfl) rfl hF (fun x23 h24 hF => ?_)
    show gV G mX0_writeLine 5 Q 76 [some (sr a0), some (sr a1), some (si a2)] [] (0) (0) h24
    exact v_lle [some (sr a0), some (sr a1), some (si a2)] ⟨rfl, rfl, rfl, trivial⟩ (hj17 h24 (okB_some hF))
  refine v_aload_n (pc := 76) (i := 1) dX0_writeLine_76 rfl rfl ?_
  refine s_getR (pc := 77) dX0_writeLine_77 flX0_94 rfl hF (fun x25 hF => ?_)
  refine cp_V (pc := 80) gI (as := []) (st := []) (ci := 0) (N := mX1_size) (k := 0) (n := 0) (k1 := 0) (n1 := 0) dX0_writeLine_80 lkX0_29 caX1_size cvX1_size rfl (by decide) rfl (fun b Q1 hq => tX1_size b q16 Q1 hq) ⟨by decide, by decide⟩ (Nat.le_of_ble_eq_true rfl) rfl hF (fun x26 hF => ?_)
  show gV G mX0_writeLine 5 Q 83 [some (sr a0), some (sr a1), some (si a2)] [si x26] (0) (0) q16
  refine mg (X := fun q27 => gV G mX0_writeLine 5 Q 99 [some (sr a0), some (sr a1), some (si a2)] [] (0) (0) q27) hF (fun _ hj28 hF => ?_) (fun q27 hF => ?_)
  · refine v_if_le (pc := 83) 99 dX0_writeLine_83 rfl (fun hc => ?_) (fun hc => ?_)
    · replace hF := (okB_if hF).1 hc
      exact v_lle [some (sr a0), some (sr a1), some (si a2)] ⟨rfl, rfl, rfl, trivial⟩ (hj28 q16 (okB_some hF))
    replace hF := (okB_if hF).2 hc
    refine v_aload_n (pc := 86) (i := 0) dX0_writeLine_86 rfl rfl ?_
    refine v_iconst (pc := 87) (v := (0 : Int32)) dX0_writeLine_87 rfl ?_
    refine ch_V (pc := 88) gU (as := [si (0 : Int32)]) (st := []) (ci := 0) (N := mX1_put) (k := 0) (n := 0) (k1 := 0) (n1 := 0) dX0_writeLine_88 lkX0_45 caX1_put cvX1_put rfl (by decide) rfl (fun b Q1 hq => tX1_put b (0 : Int32) q16 Q1 hq) ⟨by decide, by decide⟩ (Nat.le_of_ble_eq_true rfl) rfl hF (fun x29 h30 hF => ?_)
    show gV G mX0_writeLine 5 Q 91 [some (sr a0), some (sr a1), some (si a2)] [] (0) (0) h30
    refine v_aload_n (pc := 91) (i := 0) dX0_writeLine_91 rfl rfl ?_
    refine v_aload_n (pc := 92) (i := 1) dX0_writeLine_92 rfl rfl ?_
    refine s_getR (pc := 93) dX0_writeLine_93 flX0_94 rfl hF (fun x31 hF => ?_)
    refine ch_S (pc := 96) gU (as := [sr a0, sr x31]) (st := []) (N := mX0_write) (k := 0) (n := 0) (k1 := 0) (n1 := 0) dX0_writeLine_96 lkX0_86 caX0_write csX0_write rfl (fun Q1 hq => tX0_write a0 x31 h30 Q1 hq) ⟨by decide, by decide⟩ (Nat.le_of_ble_eq_true rfl) rfl hF (fun x32 h33 hF => ?_)
    show gV G mX0_writeLine 5 Q 99 [some (sr a0), some (sr a1), some (si a2)] [] (0) (0) h33
    exact v_lle [some (sr a0), some (sr a1), some (si a2)] ⟨rfl, rfl, rfl, trivial⟩ (hj28 h33 (okB_some hF))
  refine v_aload_n (pc := 99) (i := 1) dX0_writeLine_99 rfl rfl ?_
  refine s_getI (pc := 100) dX0_writeLine_100 flX0_70 rfl hF (fun x34 hF => ?_)
  refine v_iconst (pc := 103) (v := (4 : Int32)) dX0_writeLine_103 rfl ?_
  refine v_icmp_ne (pc := 104) 118 dX0_writeLine_104 rfl (fun hc => ?_) (fun hc => ?_)
  · replace hF := (okB_if hF).2 hc
    exact v_ret (pc := 118) dX0_writeLine_118 rfl (okr hF fun q => q)
  replace hF := (okB_if hF).1 hc
  refine v_iload_n (pc := 107) (i := 2) dX0_writeLine_107 rfl rfl ?_
  refine v_if_eq (pc := 108) 118 dX0_writeLine_108 rfl (fun hc => ?_) (fun hc => ?_)
  · replace hF := (okB_if hF).1 hc
    exact v_ret (pc := 118) dX0_writeLine_118 rfl (okr hF fun q => q)
  replace hF := (okB_if hF).2 hc
  refine v_aload_n (pc := 111) (i := 0) dX0_writeLine_111 rfl rfl ?_
  refine v_sipush (pc := 112) (v := (192 : Int32)) dX0_writeLine_112 rfl ?_
  refine ch_V (pc := 115) gU (as := [si (192 : Int32)]) (st := []) (ci := 0) (N := mX1_put) (k := 0) (n := 0) (k1 := 0) (n1 := 0) dX0_writeLine_115 lkX0_45 caX1_put cvX1_put rfl (by decide) rfl (fun b Q1 hq => tX1_put b (192 : Int32) q27 Q1 hq) ⟨by decide, by decide⟩ (Nat.le_of_ble_eq_true rfl) rfl hF (fun x35 h36 hF => ?_)
  show gV G mX0_writeLine 5 Q 118 [some (sr a0), some (sr a1), some (si a2)] [] (0) (0) h36
  exact v_ret (pc := 118) dX0_writeLine_118 rfl (okr hF fun q => q)
