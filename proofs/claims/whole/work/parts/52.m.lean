/-! ===== methods: their functions and rows ===== -/
theorem dX11_typeSet_0 : decode cX11_typeSet 0 = .ok (.aload_n 0, 1) := by decide +kernel
theorem dX11_typeSet_1 : decode cX11_typeSet 1 = .ok (.iload_n 1, 1) := by decide +kernel
theorem dX11_typeSet_2 : decode cX11_typeSet 2 = .ok (.invokevirtual 376, 3) := by decide +kernel
theorem dX11_typeSet_5 : decode cX11_typeSet 5 = .ok (.istore_n 2, 1) := by decide +kernel
theorem dX11_typeSet_6 : decode cX11_typeSet 6 = .ok (.iload_n 2, 1) := by decide +kernel
theorem dX11_typeSet_7 : decode cX11_typeSet 7 = .ok (.iconst (-1), 1) := by decide +kernel
theorem dX11_typeSet_8 : decode cX11_typeSet 8 = .ok (.if_icmp .eq 11, 3) := by decide +kernel
theorem dX11_typeSet_11 : decode cX11_typeSet 11 = .ok (.aload_n 0, 1) := by decide +kernel
theorem dX11_typeSet_12 : decode cX11_typeSet 12 = .ok (.iload_n 2, 1) := by decide +kernel
theorem dX11_typeSet_13 : decode cX11_typeSet 13 = .ok (.invokevirtual 379, 3) := by decide +kernel
theorem dX11_typeSet_16 : decode cX11_typeSet 16 = .ok (.goto 185, 3) := by decide +kernel
theorem dX11_typeSet_19 : decode cX11_typeSet 19 = .ok (.iload_n 1, 1) := by decide +kernel
theorem dX11_typeSet_20 : decode cX11_typeSet 20 = .ok (.bipush 32, 2) := by decide +kernel
theorem dX11_typeSet_22 : decode cX11_typeSet 22 = .ok (.if_icmp .ne 11, 3) := by decide +kernel
theorem dX11_typeSet_25 : decode cX11_typeSet 25 = .ok (.aload_n 0, 1) := by decide +kernel
theorem dX11_typeSet_26 : decode cX11_typeSet 26 = .ok (.iconst 1, 1) := by decide +kernel
theorem dX11_typeSet_27 : decode cX11_typeSet 27 = .ok (.putfield 346, 3) := by decide +kernel
theorem dX11_typeSet_30 : decode cX11_typeSet 30 = .ok (.goto 171, 3) := by decide +kernel
theorem dX11_typeSet_33 : decode cX11_typeSet 33 = .ok (.iload_n 1, 1) := by decide +kernel
theorem dX11_typeSet_34 : decode cX11_typeSet 34 = .ok (.bipush 60, 2) := by decide +kernel
theorem dX11_typeSet_36 : decode cX11_typeSet 36 = .ok (.if_icmp .eq 9, 3) := by decide +kernel
theorem dX11_typeSet_39 : decode cX11_typeSet 39 = .ok (.iload_n 1, 1) := by decide +kernel
theorem dX11_typeSet_40 : decode cX11_typeSet 40 = .ok (.bipush 48, 2) := by decide +kernel
theorem dX11_typeSet_42 : decode cX11_typeSet 42 = .ok (.if_icmp .ne 21, 3) := by decide +kernel
theorem dX11_typeSet_45 : decode cX11_typeSet 45 = .ok (.aload_n 0, 1) := by decide +kernel
theorem dX11_typeSet_46 : decode cX11_typeSet 46 = .ok (.iload_n 1, 1) := by decide +kernel
theorem dX11_typeSet_47 : decode cX11_typeSet 47 = .ok (.bipush 60, 2) := by decide +kernel
theorem dX11_typeSet_49 : decode cX11_typeSet 49 = .ok (.if_icmp .ne 7, 3) := by decide +kernel
theorem dX11_typeSet_52 : decode cX11_typeSet 52 = .ok (.iconst 1, 1) := by decide +kernel
theorem dX11_typeSet_53 : decode cX11_typeSet 53 = .ok (.goto 4, 3) := by decide +kernel
theorem dX11_typeSet_56 : decode cX11_typeSet 56 = .ok (.iconst 0, 1) := by decide +kernel
theorem dX11_typeSet_57 : decode cX11_typeSet 57 = .ok (.putfield 349, 3) := by decide +kernel
theorem dX11_typeSet_60 : decode cX11_typeSet 60 = .ok (.goto 141, 3) := by decide +kernel
theorem dX11_typeSet_63 : decode cX11_typeSet 63 = .ok (.iload_n 1, 1) := by decide +kernel
theorem dX11_typeSet_64 : decode cX11_typeSet 64 = .ok (.bipush 50, 2) := by decide +kernel
theorem dX11_typeSet_66 : decode cX11_typeSet 66 = .ok (.if_icmp .eq 20, 3) := by decide +kernel
theorem dX11_typeSet_69 : decode cX11_typeSet 69 = .ok (.iload_n 1, 1) := by decide +kernel
theorem dX11_typeSet_70 : decode cX11_typeSet 70 = .ok (.iconst 2, 1) := by decide +kernel
theorem dX11_typeSet_71 : decode cX11_typeSet 71 = .ok (.if_icmp .eq 15, 3) := by decide +kernel
theorem dX11_typeSet_74 : decode cX11_typeSet 74 = .ok (.iload_n 1, 1) := by decide +kernel
theorem dX11_typeSet_75 : decode cX11_typeSet 75 = .ok (.bipush 38, 2) := by decide +kernel
theorem dX11_typeSet_77 : decode cX11_typeSet 77 = .ok (.if_icmp .eq 9, 3) := by decide +kernel
theorem dX11_typeSet_80 : decode cX11_typeSet 80 = .ok (.iload_n 1, 1) := by decide +kernel
theorem dX11_typeSet_81 : decode cX11_typeSet 81 = .ok (.bipush 36, 2) := by decide +kernel
theorem dX11_typeSet_83 : decode cX11_typeSet 83 = .ok (.if_icmp .ne 45, 3) := by decide +kernel
theorem dX11_typeSet_86 : decode cX11_typeSet 86 = .ok (.aload_n 0, 1) := by decide +kernel
theorem dX11_typeSet_87 : decode cX11_typeSet 87 = .ok (.iload_n 1, 1) := by decide +kernel
theorem dX11_typeSet_88 : decode cX11_typeSet 88 = .ok (.bipush 50, 2) := by decide +kernel
theorem dX11_typeSet_90 : decode cX11_typeSet 90 = .ok (.if_icmp .ne 8, 3) := by decide +kernel
theorem dX11_typeSet_93 : decode cX11_typeSet 93 = .ok (.bipush 46, 2) := by decide +kernel
theorem dX11_typeSet_95 : decode cX11_typeSet 95 = .ok (.goto 26, 3) := by decide +kernel
theorem dX11_typeSet_98 : decode cX11_typeSet 98 = .ok (.iload_n 1, 1) := by decide +kernel
theorem dX11_typeSet_99 : decode cX11_typeSet 99 = .ok (.iconst 2, 1) := by decide +kernel
theorem dX11_typeSet_100 : decode cX11_typeSet 100 = .ok (.if_icmp .ne 8, 3) := by decide +kernel
theorem dX11_typeSet_103 : decode cX11_typeSet 103 = .ok (.bipush 44, 2) := by decide +kernel
theorem dX11_typeSet_105 : decode cX11_typeSet 105 = .ok (.goto 16, 3) := by decide +kernel
theorem dX11_typeSet_108 : decode cX11_typeSet 108 = .ok (.iload_n 1, 1) := by decide +kernel
theorem dX11_typeSet_109 : decode cX11_typeSet 109 = .ok (.bipush 38, 2) := by decide +kernel
theorem dX11_typeSet_111 : decode cX11_typeSet 111 = .ok (.if_icmp .ne 8, 3) := by decide +kernel
theorem dX11_typeSet_114 : decode cX11_typeSet 114 = .ok (.bipush 63, 2) := by decide +kernel
theorem dX11_typeSet_116 : decode cX11_typeSet 116 = .ok (.goto 5, 3) := by decide +kernel
theorem dX11_typeSet_119 : decode cX11_typeSet 119 = .ok (.bipush 45, 2) := by decide +kernel
theorem dX11_typeSet_121 : decode cX11_typeSet 121 = .ok (.invokevirtual 373, 3) := by decide +kernel
theorem dX11_typeSet_124 : decode cX11_typeSet 124 = .ok (.istore_n 3, 1) := by decide +kernel
theorem dX11_typeSet_125 : decode cX11_typeSet 125 = .ok (.goto 76, 3) := by decide +kernel
theorem dX11_typeSet_128 : decode cX11_typeSet 128 = .ok (.iload_n 1, 1) := by decide +kernel
theorem dX11_typeSet_129 : decode cX11_typeSet 129 = .ok (.sipush 256, 3) := by decide +kernel
theorem dX11_typeSet_132 : decode cX11_typeSet 132 = .ok (.if_icmp .ne 27, 3) := by decide +kernel
theorem dX11_typeSet_135 : decode cX11_typeSet 135 = .ok (.aload_n 0, 1) := by decide +kernel
theorem dX11_typeSet_136 : decode cX11_typeSet 136 = .ok (.aload_n 0, 1) := by decide +kernel
theorem dX11_typeSet_137 : decode cX11_typeSet 137 = .ok (.bipush 32, 2) := by decide +kernel
theorem dX11_typeSet_139 : decode cX11_typeSet 139 = .ok (.invokevirtual 373, 3) := by decide +kernel
theorem dX11_typeSet_142 : decode cX11_typeSet 142 = .ok (.ifCond .eq 7, 3) := by decide +kernel
theorem dX11_typeSet_145 : decode cX11_typeSet 145 = .ok (.iconst 0, 1) := by decide +kernel
theorem dX11_typeSet_146 : decode cX11_typeSet 146 = .ok (.goto 7, 3) := by decide +kernel
theorem dX11_typeSet_149 : decode cX11_typeSet 149 = .ok (.aload_n 0, 1) := by decide +kernel
theorem dX11_typeSet_150 : decode cX11_typeSet 150 = .ok (.getfield 349, 3) := by decide +kernel
theorem dX11_typeSet_153 : decode cX11_typeSet 153 = .ok (.putfield 349, 3) := by decide +kernel
theorem dX11_typeSet_156 : decode cX11_typeSet 156 = .ok (.goto 45, 3) := by decide +kernel
theorem dX11_typeSet_159 : decode cX11_typeSet 159 = .ok (.iload_n 1, 1) := by decide +kernel
theorem dX11_typeSet_160 : decode cX11_typeSet 160 = .ok (.bipush 64, 2) := by decide +kernel
theorem dX11_typeSet_162 : decode cX11_typeSet 162 = .ok (.if_icmp .ne 10, 3) := by decide +kernel
theorem dX11_typeSet_165 : decode cX11_typeSet 165 = .ok (.aload_n 0, 1) := by decide +kernel
theorem dX11_typeSet_166 : decode cX11_typeSet 166 = .ok (.invokevirtual 382, 3) := by decide +kernel
theorem dX11_typeSet_169 : decode cX11_typeSet 169 = .ok (.goto 32, 3) := by decide +kernel
theorem dX11_typeSet_172 : decode cX11_typeSet 172 = .ok (.iload_n 1, 1) := by decide +kernel
theorem dX11_typeSet_173 : decode cX11_typeSet 173 = .ok (.sipush 128, 3) := by decide +kernel
theorem dX11_typeSet_176 : decode cX11_typeSet 176 = .ok (.if_icmp .ne 25, 3) := by decide +kernel
theorem dX11_typeSet_179 : decode cX11_typeSet 179 = .ok (.aload_n 0, 1) := by decide +kernel
theorem dX11_typeSet_180 : decode cX11_typeSet 180 = .ok (.iconst 0, 1) := by decide +kernel
theorem dX11_typeSet_181 : decode cX11_typeSet 181 = .ok (.putfield 267, 3) := by decide +kernel
theorem dX11_typeSet_184 : decode cX11_typeSet 184 = .ok (.aload_n 0, 1) := by decide +kernel
theorem dX11_typeSet_185 : decode cX11_typeSet 185 = .ok (.iconst 0, 1) := by decide +kernel
theorem dX11_typeSet_186 : decode cX11_typeSet 186 = .ok (.putfield 143, 3) := by decide +kernel
theorem dX11_typeSet_189 : decode cX11_typeSet 189 = .ok (.aload_n 0, 1) := by decide +kernel
theorem dX11_typeSet_190 : decode cX11_typeSet 190 = .ok (.aload_n 0, 1) := by decide +kernel
theorem dX11_typeSet_191 : decode cX11_typeSet 191 = .ok (.getfield 128, 3) := by decide +kernel
theorem dX11_typeSet_194 : decode cX11_typeSet 194 = .ok (.invokevirtual 227, 3) := by decide +kernel
theorem dX11_typeSet_197 : decode cX11_typeSet 197 = .ok (.aload_n 0, 1) := by decide +kernel
theorem dX11_typeSet_198 : decode cX11_typeSet 198 = .ok (.invokevirtual 203, 3) := by decide +kernel
theorem dX11_typeSet_201 : decode cX11_typeSet 201 = .ok (.return_, 1) := by decide +kernel
theorem dX11_doChord_0 : decode cX11_doChord 0 = .ok (.iload_n 1, 1) := by decide +kernel
theorem dX11_doChord_1 : decode cX11_doChord 1 = .ok (.sipush 256, 3) := by decide +kernel
theorem dX11_doChord_4 : decode cX11_doChord 4 = .ok (.if_icmp .le 15, 3) := by decide +kernel
theorem dX11_doChord_7 : decode cX11_doChord 7 = .ok (.aload_n 0, 1) := by decide +kernel
theorem dX11_doChord_8 : decode cX11_doChord 8 = .ok (.iload_n 1, 1) := by decide +kernel
theorem dX11_doChord_9 : decode cX11_doChord 9 = .ok (.sipush 256, 3) := by decide +kernel
theorem dX11_doChord_12 : decode cX11_doChord 12 = .ok (.isub, 1) := by decide +kernel
theorem dX11_doChord_13 : decode cX11_doChord 13 = .ok (.invokevirtual 385, 3) := by decide +kernel
theorem dX11_doChord_16 : decode cX11_doChord 16 = .ok (.goto 30, 3) := by decide +kernel
theorem dX11_doChord_19 : decode cX11_doChord 19 = .ok (.aload_n 0, 1) := by decide +kernel
theorem dX11_doChord_20 : decode cX11_doChord 20 = .ok (.getfield 267, 3) := by decide +kernel
theorem dX11_doChord_23 : decode cX11_doChord 23 = .ok (.ifCond .eq 11, 3) := by decide +kernel
theorem dX11_doChord_26 : decode cX11_doChord 26 = .ok (.aload_n 0, 1) := by decide +kernel
theorem dX11_doChord_27 : decode cX11_doChord 27 = .ok (.iload_n 1, 1) := by decide +kernel
theorem dX11_doChord_28 : decode cX11_doChord 28 = .ok (.invokevirtual 388, 3) := by decide +kernel
theorem dX11_doChord_31 : decode cX11_doChord 31 = .ok (.goto 15, 3) := by decide +kernel
theorem dX11_doChord_34 : decode cX11_doChord 34 = .ok (.iload_n 1, 1) := by decide +kernel
theorem dX11_doChord_35 : decode cX11_doChord 35 = .ok (.sipush 256, 3) := by decide +kernel
theorem dX11_doChord_38 : decode cX11_doChord 38 = .ok (.if_icmp .ge 8, 3) := by decide +kernel
theorem dX11_doChord_41 : decode cX11_doChord 41 = .ok (.aload_n 0, 1) := by decide +kernel
theorem dX11_doChord_42 : decode cX11_doChord 42 = .ok (.iload_n 1, 1) := by decide +kernel
theorem dX11_doChord_43 : decode cX11_doChord 43 = .ok (.invokevirtual 391, 3) := by decide +kernel
theorem dX11_doChord_46 : decode cX11_doChord 46 = .ok (.aload_n 0, 1) := by decide +kernel
theorem dX11_doChord_47 : decode cX11_doChord 47 = .ok (.invokevirtual 295, 3) := by decide +kernel
theorem dX11_doChord_50 : decode cX11_doChord 50 = .ok (.return_, 1) := by decide +kernel
theorem dX11_bits_0 : decode cX11_bits 0 = .ok (.iconst 0, 1) := by decide +kernel
theorem dX11_bits_1 : decode cX11_bits 1 = .ok (.istore_n 1, 1) := by decide +kernel
theorem dX11_bits_2 : decode cX11_bits 2 = .ok (.iload_n 0, 1) := by decide +kernel
theorem dX11_bits_3 : decode cX11_bits 3 = .ok (.istore_n 2, 1) := by decide +kernel
theorem dX11_bits_4 : decode cX11_bits 4 = .ok (.iload_n 2, 1) := by decide +kernel
theorem dX11_bits_5 : decode cX11_bits 5 = .ok (.ifCond .le 16, 3) := by decide +kernel
theorem dX11_bits_8 : decode cX11_bits 8 = .ok (.iload_n 1, 1) := by decide +kernel
theorem dX11_bits_9 : decode cX11_bits 9 = .ok (.iload_n 2, 1) := by decide +kernel
theorem dX11_bits_10 : decode cX11_bits 10 = .ok (.iconst 1, 1) := by decide +kernel
theorem dX11_bits_11 : decode cX11_bits 11 = .ok (.iand, 1) := by decide +kernel
theorem dX11_bits_12 : decode cX11_bits 12 = .ok (.iadd, 1) := by decide +kernel
theorem dX11_bits_13 : decode cX11_bits 13 = .ok (.istore_n 1, 1) := by decide +kernel
theorem dX11_bits_14 : decode cX11_bits 14 = .ok (.iload_n 2, 1) := by decide +kernel
theorem dX11_bits_15 : decode cX11_bits 15 = .ok (.iconst 1, 1) := by decide +kernel
theorem dX11_bits_16 : decode cX11_bits 16 = .ok (.ishr, 1) := by decide +kernel
theorem dX11_bits_17 : decode cX11_bits 17 = .ok (.istore_n 2, 1) := by decide +kernel
theorem dX11_bits_18 : decode cX11_bits 18 = .ok (.goto (-14), 3) := by decide +kernel
theorem dX11_bits_21 : decode cX11_bits 21 = .ok (.iload_n 1, 1) := by decide +kernel
theorem dX11_bits_22 : decode cX11_bits 22 = .ok (.ireturn, 1) := by decide +kernel
theorem dX11_press_0 : decode cX11_press 0 = .ok (.aload_n 0, 1) := by decide +kernel
theorem dX11_press_1 : decode cX11_press 1 = .ok (.iload_n 1, 1) := by decide +kernel
theorem dX11_press_2 : decode cX11_press 2 = .ok (.iconst 0, 1) := by decide +kernel
theorem dX11_press_3 : decode cX11_press 3 = .ok (.bipush 8, 2) := by decide +kernel
theorem dX11_press_5 : decode cX11_press 5 = .ok (.invokestatic 114, 3) := by decide +kernel
theorem dX11_press_8 : decode cX11_press 8 = .ok (.ifCond .ne 7, 3) := by decide +kernel
theorem dX11_press_11 : decode cX11_press 11 = .ok (.iconst 1, 1) := by decide +kernel
theorem dX11_press_12 : decode cX11_press 12 = .ok (.goto 20, 3) := by decide +kernel
theorem dX11_press_15 : decode cX11_press 15 = .ok (.aload_n 0, 1) := by decide +kernel
theorem dX11_press_16 : decode cX11_press 16 = .ok (.getfield 394, 3) := by decide +kernel
theorem dX11_press_19 : decode cX11_press 19 = .ok (.iload_n 1, 1) := by decide +kernel
theorem dX11_press_20 : decode cX11_press 20 = .ok (.ishr, 1) := by decide +kernel
theorem dX11_press_21 : decode cX11_press 21 = .ok (.iconst 1, 1) := by decide +kernel
theorem dX11_press_22 : decode cX11_press 22 = .ok (.iand, 1) := by decide +kernel
theorem dX11_press_23 : decode cX11_press 23 = .ok (.iconst 1, 1) := by decide +kernel
theorem dX11_press_24 : decode cX11_press 24 = .ok (.if_icmp .ne 7, 3) := by decide +kernel
theorem dX11_press_27 : decode cX11_press 27 = .ok (.iconst 2, 1) := by decide +kernel
theorem dX11_press_28 : decode cX11_press 28 = .ok (.goto 4, 3) := by decide +kernel
theorem dX11_press_31 : decode cX11_press 31 = .ok (.iconst 0, 1) := by decide +kernel
theorem dX11_press_32 : decode cX11_press 32 = .ok (.putfield 111, 3) := by decide +kernel
theorem dX11_press_35 : decode cX11_press 35 = .ok (.aload_n 0, 1) := by decide +kernel
theorem dX11_press_36 : decode cX11_press 36 = .ok (.getfield 111, 3) := by decide +kernel
theorem dX11_press_39 : decode cX11_press 39 = .ok (.ifCond .le 5, 3) := by decide +kernel
theorem dX11_press_42 : decode cX11_press 42 = .ok (.iconst 0, 1) := by decide +kernel
theorem dX11_press_43 : decode cX11_press 43 = .ok (.ireturn, 1) := by decide +kernel
theorem dX11_press_44 : decode cX11_press 44 = .ok (.aload_n 0, 1) := by decide +kernel
theorem dX11_press_45 : decode cX11_press 45 = .ok (.aload_n 0, 1) := by decide +kernel
theorem dX11_press_46 : decode cX11_press 46 = .ok (.getfield 394, 3) := by decide +kernel
theorem dX11_press_49 : decode cX11_press 49 = .ok (.ifCond .ne 7, 3) := by decide +kernel
theorem dX11_press_52 : decode cX11_press 52 = .ok (.iconst 0, 1) := by decide +kernel
theorem dX11_press_53 : decode cX11_press 53 = .ok (.goto 7, 3) := by decide +kernel
theorem dX11_press_56 : decode cX11_press 56 = .ok (.aload_n 0, 1) := by decide +kernel
theorem dX11_press_57 : decode cX11_press 57 = .ok (.getfield 397, 3) := by decide +kernel
theorem dX11_press_60 : decode cX11_press 60 = .ok (.putfield 397, 3) := by decide +kernel
theorem dX11_press_63 : decode cX11_press 63 = .ok (.aload_n 0, 1) := by decide +kernel
theorem dX11_press_64 : decode cX11_press 64 = .ok (.dup, 1) := by decide +kernel
theorem dX11_press_65 : decode cX11_press 65 = .ok (.getfield 397, 3) := by decide +kernel
theorem dX11_press_68 : decode cX11_press 68 = .ok (.iconst 1, 1) := by decide +kernel
theorem dX11_press_69 : decode cX11_press 69 = .ok (.iload_n 1, 1) := by decide +kernel
theorem dX11_press_70 : decode cX11_press 70 = .ok (.ishl, 1) := by decide +kernel
theorem dX11_press_71 : decode cX11_press 71 = .ok (.ior, 1) := by decide +kernel
theorem dX11_press_72 : decode cX11_press 72 = .ok (.putfield 397, 3) := by decide +kernel
theorem dX11_press_75 : decode cX11_press 75 = .ok (.aload_n 0, 1) := by decide +kernel
theorem dX11_press_76 : decode cX11_press 76 = .ok (.dup, 1) := by decide +kernel
theorem dX11_press_77 : decode cX11_press 77 = .ok (.getfield 394, 3) := by decide +kernel
theorem dX11_press_80 : decode cX11_press 80 = .ok (.iconst 1, 1) := by decide +kernel
theorem dX11_press_81 : decode cX11_press 81 = .ok (.iload_n 1, 1) := by decide +kernel
theorem dX11_press_82 : decode cX11_press 82 = .ok (.ishl, 1) := by decide +kernel
theorem dX11_press_83 : decode cX11_press 83 = .ok (.ior, 1) := by decide +kernel
theorem dX11_press_84 : decode cX11_press 84 = .ok (.putfield 394, 3) := by decide +kernel
theorem dX11_press_87 : decode cX11_press 87 = .ok (.aload_n 0, 1) := by decide +kernel
theorem dX11_press_88 : decode cX11_press 88 = .ok (.getfield 394, 3) := by decide +kernel
theorem dX11_press_91 : decode cX11_press 91 = .ok (.invokestatic 400, 3) := by decide +kernel
theorem dX11_press_94 : decode cX11_press 94 = .ok (.ireturn, 1) := by decide +kernel
abbrev mX11_typeSet : gM := (yX11_typeSet, cX11_typeSet, 4, (Option.none : Option FieldType), [])
theorem caX11_typeSet : cal mX11_typeSet 1 := ⟨xw 1909 (by decide +kernel) rfl, xw 102 (by decide +kernel) rfl, by decide, by decide +kernel⟩
theorem cvX11_typeSet : calV mX11_typeSet := ⟨xw 1908 (by decide +kernel) rfl, xw 76 (by decide +kernel) rfl⟩
abbrev mX11_doChord : gM := (yX11_doChord, cX11_doChord, 2, (Option.none : Option FieldType), [])
theorem caX11_doChord : cal mX11_doChord 1 := ⟨xw 1844 (by decide +kernel) rfl, xw 102 (by decide +kernel) rfl, by decide, by decide +kernel⟩
theorem cvX11_doChord : calV mX11_doChord := ⟨xw 1843 (by decide +kernel) rfl, xw 62 (by decide +kernel) rfl⟩
abbrev mX11_bits : gM := (yX11_bits, cX11_bits, 3, (Option.some FieldType.int), [])
theorem caX11_bits : cal mX11_bits 1 := ⟨xw 1836 (by decide +kernel) rfl, xw 102 (by decide +kernel) rfl, by decide, by decide +kernel⟩
theorem csX11_bits : Cond.static yX11_bits ∈ XW := xw 1835 (by decide +kernel) rfl
abbrev mX11_press : gM := (yX11_press, cX11_press, 2, (Option.some FieldType.int), [])
theorem caX11_press : cal mX11_press 1 := ⟨xw 1833 (by decide +kernel) rfl, xw 102 (by decide +kernel) rfl, by decide, by decide +kernel⟩
theorem cvX11_press : calV mX11_press := ⟨xw 1831 (by decide +kernel) rfl, xw 1832 (by decide +kernel) rfl⟩
theorem lkX11_376 : Cond.methodLink RX11 376 yX11_letterOf ∈ XW := xw 1910 (by decide +kernel) rfl
theorem lkX11_382 : Cond.methodLink RX11 382 yX11_takeLast ∈ XW := xw 1926 (by decide +kernel) rfl
theorem lkX11_379 : Cond.methodLink RX11 379 yX11_typeLetter ∈ XW := xw 1914 (by decide +kernel) rfl
theorem lkX11_391 : Cond.methodLink RX11 391 yX11_goLetter ∈ XW := xw 1930 (by decide +kernel) rfl
theorem lkX11_388 : Cond.methodLink RX11 388 yX11_typeSet ∈ XW := xw 1906 (by decide +kernel) rfl
theorem lkX11_385 : Cond.methodLink RX11 385 yX11_command ∈ XW := xw 1845 (by decide +kernel) rfl
theorem flX11_394 : fl RX11 394 10 26 := ⟨by decide, by decide, xw 1423 (by decide +kernel) rfl⟩
theorem flX11_397 : fl RX11 397 10 27 := ⟨by decide, by decide, xw 1424 (by decide +kernel) rfl⟩
theorem lkX11_400 : Cond.methodLink RX11 400 yX11_bits ∈ XW := xw 1834 (by decide +kernel) rfl
/-! BrailleDeskModel.typeSet -/
theorem tX11_typeSet {G : gG} (a0 : Nat) (h : hp) (a1 : Int32) (m : mm) (Q : hQ) (hF : okB (fX11_typeSet a1 m) (pM gU Q a0 h)) : gS G mX11_typeSet 6 0 0 [sr (some a0), si a1] (jn a0 h m) Q := by
  delta fX11_typeSet at hF
  refine gS_at [some (sr (some a0)), some (si a1), none, none] pl_X11 rfl (Nat.le_of_ble_eq_true rfl) rfl ?_
  refine v_aload_n (pc := 0) (i := 0) dX11_typeSet_0 rfl rfl ?_
  refine v_iload_n (pc := 1) (i := 1) dX11_typeSet_1 rfl rfl ?_
  refine cpM_V (pc := 2) gI (as := [si a1]) (st := []) (N := mX11_letterOf) (k := 0) (n := 0) (k1 := 0) (n1 := 0) dX11_typeSet_2 lkX11_376 caX11_letterOf cvX11_letterOf rfl rfl (fun Q1 hq => tX11_letterOf a0 h a1 m Q1 hq) ⟨by decide, by decide⟩ (Nat.le_of_ble_eq_true rfl) rfl hF (fun x1 hF => ?_)
  show gV G mX11_typeSet 6 Q 5 [some (sr (some a0)), some (si a1), none, none] [si x1] (0) (0) (jn a0 h m)
  refine v_istore_n (pc := 5) (i := 2) [some (sr (some a0)), some (si a1), some (si x1), none] dX11_typeSet_5 rfl (by decide) rfl rfl ?_
  refine v_iload_n (pc := 6) (i := 2) dX11_typeSet_6 rfl rfl ?_
  refine v_iconst (pc := 7) (v := (-1 : Int32)) dX11_typeSet_7 rfl ?_
  refine v_icmp_eq (pc := 8) 19 dX11_typeSet_8 rfl (fun hc => ?_) (fun hc => ?_)
  · replace hF := (okB_if hF).1 hc
    refine v_iload_n (pc := 19) (i := 1) dX11_typeSet_19 rfl rfl ?_
    refine v_bipush (pc := 20) (v := (32 : Int32)) dX11_typeSet_20 rfl ?_
    refine v_icmp_ne (pc := 22) 33 dX11_typeSet_22 rfl (fun hc => ?_) (fun hc => ?_)
    · replace hF := (okB_if hF).2 hc
      refine v_iload_n (pc := 33) (i := 1) dX11_typeSet_33 rfl rfl ?_
      refine v_bipush (pc := 34) (v := (60 : Int32)) dX11_typeSet_34 rfl ?_
      refine v_icmp_eq (pc := 36) 45 dX11_typeSet_36 rfl (fun hc => ?_) (fun hc => ?_)
      · replace hF := (okB_if hF).1 hc
        refine v_aload_n (pc := 45) (i := 0) dX11_typeSet_45 rfl rfl ?_
        refine v_iload_n (pc := 46) (i := 1) dX11_typeSet_46 rfl rfl ?_
        refine v_bipush (pc := 47) (v := (60 : Int32)) dX11_typeSet_47 rfl ?_
        refine mg (X := fun q2 => gV G mX11_typeSet 6 Q 57 [none, none, none, none] [si q2, sr (some a0)] (0) (0) (jn a0 h m)) hF (fun _ hj3 hF => ?_) (fun q2 hF => ?_)
        · refine v_icmp_ne (pc := 49) 56 dX11_typeSet_49 rfl (fun hc => ?_) (fun hc => ?_)
          · replace hF := (okB_if hF).2 hc
            refine v_iconst (pc := 56) (v := (0 : Int32)) dX11_typeSet_56 rfl ?_
            exact v_lle [none, none, none, none] trivial (hj3 (0 : Int32) (okB_some hF))
          replace hF := (okB_if hF).1 hc
          refine v_iconst (pc := 52) (v := (1 : Int32)) dX11_typeSet_52 rfl ?_
          refine v_goto (pc := 53) 57 dX11_typeSet_53 rfl ?_
          exact v_lle [none, none, none, none] trivial (hj3 (1 : Int32) (okB_some hF))
        refine m_putZ (pc := 57) (j := 24) dX11_typeSet_57 flX11_349 rfl rfl rfl hF (fun m4 hF => ?_)
        refine v_goto (pc := 60) 201 dX11_typeSet_60 rfl ?_
        exact v_ret (pc := 201) dX11_typeSet_201 rfl (okr hF fun q => q)
      replace hF := (okB_if hF).2 hc
      refine v_iload_n (pc := 39) (i := 1) dX11_typeSet_39 rfl rfl ?_
      refine v_bipush (pc := 40) (v := (48 : Int32)) dX11_typeSet_40 rfl ?_
      refine v_icmp_ne (pc := 42) 63 dX11_typeSet_42 rfl (fun hc => ?_) (fun hc => ?_)
      · replace hF := (okB_if hF).2 hc
        refine v_iload_n (pc := 63) (i := 1) dX11_typeSet_63 rfl rfl ?_
        refine v_bipush (pc := 64) (v := (50 : Int32)) dX11_typeSet_64 rfl ?_
        refine v_icmp_eq (pc := 66) 86 dX11_typeSet_66 rfl (fun hc => ?_) (fun hc => ?_)
        · replace hF := (okB_if hF).1 hc
          refine v_aload_n (pc := 86) (i := 0) dX11_typeSet_86 rfl rfl ?_
          refine v_iload_n (pc := 87) (i := 1) dX11_typeSet_87 rfl rfl ?_
          refine v_bipush (pc := 88) (v := (50 : Int32)) dX11_typeSet_88 rfl ?_
          refine mg (X := fun q5 => gV G mX11_typeSet 6 Q 121 [none, none, none, none] [si q5, sr (some a0)] (0) (0) (jn a0 h m)) hF (fun _ hj6 hF => ?_) (fun q5 hF => ?_)
          · refine v_icmp_ne (pc := 90) 98 dX11_typeSet_90 rfl (fun hc => ?_) (fun hc => ?_)
            · replace hF := (okB_if hF).2 hc
              refine v_iload_n (pc := 98) (i := 1) dX11_typeSet_98 rfl rfl ?_
              refine v_iconst (pc := 99) (v := (2 : Int32)) dX11_typeSet_99 rfl ?_
              refine v_icmp_ne (pc := 100) 108 dX11_typeSet_100 rfl (fun hc => ?_) (fun hc => ?_)
              · replace hF := (okB_if hF).2 hc
                refine v_iload_n (pc := 108) (i := 1) dX11_typeSet_108 rfl rfl ?_
                refine v_bipush (pc := 109) (v := (38 : Int32)) dX11_typeSet_109 rfl ?_
                refine v_icmp_ne (pc := 111) 119 dX11_typeSet_111 rfl (fun hc => ?_) (fun hc => ?_)
                · replace hF := (okB_if hF).2 hc
                  refine v_bipush (pc := 119) (v := (45 : Int32)) dX11_typeSet_119 rfl ?_
                  exact v_lle [none, none, none, none] trivial (hj6 (45 : Int32) (okB_some hF))
                replace hF := (okB_if hF).1 hc
                refine v_bipush (pc := 114) (v := (63 : Int32)) dX11_typeSet_114 rfl ?_
                refine v_goto (pc := 116) 121 dX11_typeSet_116 rfl ?_
                exact v_lle [none, none, none, none] trivial (hj6 (63 : Int32) (okB_some hF))
              replace hF := (okB_if hF).1 hc
              refine v_bipush (pc := 103) (v := (44 : Int32)) dX11_typeSet_103 rfl ?_
              refine v_goto (pc := 105) 121 dX11_typeSet_105 rfl ?_
              exact v_lle [none, none, none, none] trivial (hj6 (44 : Int32) (okB_some hF))
            replace hF := (okB_if hF).1 hc
            refine v_bipush (pc := 93) (v := (46 : Int32)) dX11_typeSet_93 rfl ?_
            refine v_goto (pc := 95) 121 dX11_typeSet_95 rfl ?_
            exact v_lle [none, none, none, none] trivial (hj6 (46 : Int32) (okB_some hF))
          refine chM_V (pc := 121) gI (as := [si q5]) (st := []) (N := mX11_type) (k := 0) (n := 0) (k1 := 0) (n1 := 0) dX11_typeSet_121 lkX11_373 caX11_type cvX11_type rfl rfl (fun Q1 hq => tX11_type a0 h q5 m Q1 hq) ⟨by decide, by decide⟩ (Nat.le_of_ble_eq_true rfl) rfl hF (fun x7 m8 hF => ?_)
          show gV G mX11_typeSet 6 Q 124 [none, none, none, none] [si x7] (0) (0) (jn a0 h m8)
          refine v_istore_n (pc := 124) (i := 3) [none, none, none, some (si x7)] dX11_typeSet_124 rfl (by decide) rfl rfl ?_
          refine v_goto (pc := 125) 201 dX11_typeSet_125 rfl ?_
          exact v_ret (pc := 201) dX11_typeSet_201 rfl (okr hF fun q => q)
        replace hF := (okB_if hF).2 hc
        refine v_iload_n (pc := 69) (i := 1) dX11_typeSet_69 rfl rfl ?_
        refine v_iconst (pc := 70) (v := (2 : Int32)) dX11_typeSet_70 rfl ?_
        refine v_icmp_eq (pc := 71) 86 dX11_typeSet_71 rfl (fun hc => ?_) (fun hc => ?_)
        · replace hF := (okB_if hF).1 hc
          refine v_aload_n (pc := 86) (i := 0) dX11_typeSet_86 rfl rfl ?_
          refine v_iload_n (pc := 87) (i := 1) dX11_typeSet_87 rfl rfl ?_
          refine v_bipush (pc := 88) (v := (50 : Int32)) dX11_typeSet_88 rfl ?_
          refine mg (X := fun q9 => gV G mX11_typeSet 6 Q 121 [none, none, none, none] [si q9, sr (some a0)] (0) (0) (jn a0 h m)) hF (fun _ hj10 hF => ?_) (fun q9 hF => ?_)
          · refine v_icmp_ne (pc := 90) 98 dX11_typeSet_90 rfl (fun hc => ?_) (fun hc => ?_)
            · replace hF := (okB_if hF).2 hc
              refine v_iload_n (pc := 98) (i := 1) dX11_typeSet_98 rfl rfl ?_
              refine v_iconst (pc := 99) (v := (2 : Int32)) dX11_typeSet_99 rfl ?_
              refine v_icmp_ne (pc := 100) 108 dX11_typeSet_100 rfl (fun hc => ?_) (fun hc => ?_)
              · replace hF := (okB_if hF).2 hc
                refine v_iload_n (pc := 108) (i := 1) dX11_typeSet_108 rfl rfl ?_
                refine v_bipush (pc := 109) (v := (38 : Int32)) dX11_typeSet_109 rfl ?_
                refine v_icmp_ne (pc := 111) 119 dX11_typeSet_111 rfl (fun hc => ?_) (fun hc => ?_)
                · replace hF := (okB_if hF).2 hc
                  refine v_bipush (pc := 119) (v := (45 : Int32)) dX11_typeSet_119 rfl ?_
                  exact v_lle [none, none, none, none] trivial (hj10 (45 : Int32) (okB_some hF))
                replace hF := (okB_if hF).1 hc
                refine v_bipush (pc := 114) (v := (63 : Int32)) dX11_typeSet_114 rfl ?_
                refine v_goto (pc := 116) 121 dX11_typeSet_116 rfl ?_
                exact v_lle [none, none, none, none] trivial (hj10 (63 : Int32) (okB_some hF))
              replace hF := (okB_if hF).1 hc
              refine v_bipush (pc := 103) (v := (44 : Int32)) dX11_typeSet_103 rfl ?_
              refine v_goto (pc := 105) 121 dX11_typeSet_105 rfl ?_
              exact v_lle [none, none, none, none] trivial (hj10 (44 : Int32) (okB_some hF))
            replace hF := (okB_if hF).1 hc
            refine v_bipush (pc := 93) (v := (46 : Int32)) dX11_typeSet_93 rfl ?_
            refine v_goto (pc := 95) 121 dX11_typeSet_95 rfl ?_
            exact v_lle [none, none, none, none] trivial (hj10 (46 : Int32) (okB_some hF))
          refine chM_V (pc := 121) gI (as := [si q9]) (st := []) (N := mX11_type) (k := 0) (n := 0) (k1 := 0) (n1 := 0) dX11_typeSet_121 lkX11_373 caX11_type cvX11_type rfl rfl (fun Q1 hq => tX11_type a0 h q9 m Q1 hq) ⟨by decide, by decide⟩ (Nat.le_of_ble_eq_true rfl) rfl hF (fun x11 m12 hF => ?_)
          show gV G mX11_typeSet 6 Q 124 [none, none, none, none] [si x11] (0) (0) (jn a0 h m12)
          refine v_istore_n (pc := 124) (i := 3) [none, none, none, some (si x11)] dX11_typeSet_124 rfl (by decide) rfl rfl ?_
          refine v_goto (pc := 125) 201 dX11_typeSet_125 rfl ?_
          exact v_ret (pc := 201) dX11_typeSet_201 rfl (okr hF fun q => q)
        replace hF := (okB_if hF).2 hc
        refine v_iload_n (pc := 74) (i := 1) dX11_typeSet_74 rfl rfl ?_
        refine v_bipush (pc := 75) (v := (38 : Int32)) dX11_typeSet_75 rfl ?_
        refine v_icmp_eq (pc := 77) 86 dX11_typeSet_77 rfl (fun hc => ?_) (fun hc => ?_)
        · replace hF := (okB_if hF).1 hc
          refine v_aload_n (pc := 86) (i := 0) dX11_typeSet_86 rfl rfl ?_
          refine v_iload_n (pc := 87) (i := 1) dX11_typeSet_87 rfl rfl ?_
          refine v_bipush (pc := 88) (v := (50 : Int32)) dX11_typeSet_88 rfl ?_
          refine mg (X := fun q13 => gV G mX11_typeSet 6 Q 121 [none, none, none, none] [si q13, sr (some a0)] (0) (0) (jn a0 h m)) hF (fun _ hj14 hF => ?_) (fun q13 hF => ?_)
          · refine v_icmp_ne (pc := 90) 98 dX11_typeSet_90 rfl (fun hc => ?_) (fun hc => ?_)
            · replace hF := (okB_if hF).2 hc
              refine v_iload_n (pc := 98) (i := 1) dX11_typeSet_98 rfl rfl ?_
              refine v_iconst (pc := 99) (v := (2 : Int32)) dX11_typeSet_99 rfl ?_
              refine v_icmp_ne (pc := 100) 108 dX11_typeSet_100 rfl (fun hc => ?_) (fun hc => ?_)
              · replace hF := (okB_if hF).2 hc
                refine v_iload_n (pc := 108) (i := 1) dX11_typeSet_108 rfl rfl ?_
                refine v_bipush (pc := 109) (v := (38 : Int32)) dX11_typeSet_109 rfl ?_
                refine v_icmp_ne (pc := 111) 119 dX11_typeSet_111 rfl (fun hc => ?_) (fun hc => ?_)
                · replace hF := (okB_if hF).2 hc
                  refine v_bipush (pc := 119) (v := (45 : Int32)) dX11_typeSet_119 rfl ?_
                  exact v_lle [none, none, none, none] trivial (hj14 (45 : Int32) (okB_some hF))
                replace hF := (okB_if hF).1 hc
                refine v_bipush (pc := 114) (v := (63 : Int32)) dX11_typeSet_114 rfl ?_
                refine v_goto (pc := 116) 121 dX11_typeSet_116 rfl ?_
                exact v_lle [none, none, none, none] trivial (hj14 (63 : Int32) (okB_some hF))
              replace hF := (okB_if hF).1 hc
              refine v_bipush (pc := 103) (v := (44 : Int32)) dX11_typeSet_103 rfl ?_
              refine v_goto (pc := 105) 121 dX11_typeSet_105 rfl ?_
              exact v_lle [none, none, none, none] trivial (hj14 (44 : Int32) (okB_some hF))
            replace hF := (okB_if hF).1 hc
            refine v_bipush (pc := 93) (v := (46 : Int32)) dX11_typeSet_93 rfl ?_
            refine v_goto (pc := 95) 121 dX11_typeSet_95 rfl ?_
            exact v_lle [none, none, none, none] trivial (hj14 (46 : Int32) (okB_some hF))
          refine chM_V (pc := 121) gI (as := [si q13]) (st := []) (N := mX11_type) (k := 0) (n := 0) (k1 := 0) (n1 := 0) dX11_typeSet_121 lkX11_373 caX11_type cvX11_type rfl rfl (fun Q1 hq => tX11_type a0 h q13 m Q1 hq) ⟨by decide, by decide⟩ (Nat.le_of_ble_eq_true rfl) rfl hF (fun x15 m16 hF => ?_)
          show gV G mX11_typeSet 6 Q 124 [none, none, none, none] [si x15] (0) (0) (jn a0 h m16)
          refine v_istore_n (pc := 124) (i := 3) [none, none, none, some (si x15)] dX11_typeSet_124 rfl (by decide) rfl rfl ?_
          refine v_goto (pc := 125) 201 dX11_typeSet_125 rfl ?_
          exact v_ret (pc := 201) dX11_typeSet_201 rfl (okr hF fun q => q)
        replace hF := (okB_if hF).2 hc
        refine v_iload_n (pc := 80) (i := 1) dX11_typeSet_80 rfl rfl ?_
        refine v_bipush (pc := 81) (v := (36 : Int32)) dX11_typeSet_81 rfl ?_
        refine v_icmp_ne (pc := 83) 128 dX11_typeSet_83 rfl (fun hc => ?_) (fun hc => ?_)
        · replace hF := (okB_if hF).2 hc
          refine v_iload_n (pc := 128) (i := 1) dX11_typeSet_128 rfl rfl ?_
          refine v_sipush (pc := 129) (v := (256 : Int32)) dX11_typeSet_129 rfl ?_
          refine v_icmp_ne (pc := 132) 159 dX11_typeSet_132 rfl (fun hc => ?_) (fun hc => ?_)
          · replace hF := (okB_if hF).2 hc
            refine v_iload_n (pc := 159) (i := 1) dX11_typeSet_159 rfl rfl ?_
            refine v_bipush (pc := 160) (v := (64 : Int32)) dX11_typeSet_160 rfl ?_
            refine v_icmp_ne (pc := 162) 172 dX11_typeSet_162 rfl (fun hc => ?_) (fun hc => ?_)
            · replace hF := (okB_if hF).2 hc
              refine v_iload_n (pc := 172) (i := 1) dX11_typeSet_172 rfl rfl ?_
              refine v_sipush (pc := 173) (v := (128 : Int32)) dX11_typeSet_173 rfl ?_
              refine v_icmp_ne (pc := 176) 201 dX11_typeSet_176 rfl (fun hc => ?_) (fun hc => ?_)
              · replace hF := (okB_if hF).2 hc
                exact v_ret (pc := 201) dX11_typeSet_201 rfl (okr hF fun q => q)
              replace hF := (okB_if hF).1 hc
              refine v_aload_n (pc := 179) (i := 0) dX11_typeSet_179 rfl rfl ?_
              refine v_iconst (pc := 180) (v := (0 : Int32)) dX11_typeSet_180 rfl ?_
              refine m_putZ (pc := 181) (j := 22) dX11_typeSet_181 flX11_267 rfl rfl rfl hF (fun m17 hF => ?_)
              refine v_aload_n (pc := 184) (i := 0) dX11_typeSet_184 rfl rfl ?_
              refine v_iconst (pc := 185) (v := (0 : Int32)) dX11_typeSet_185 rfl ?_
              refine m_putI (pc := 186) (j := 29) dX11_typeSet_186 flX11_143 rfl rfl rfl hF (fun m18 hF => ?_)
              refine v_aload_n (pc := 189) (i := 0) dX11_typeSet_189 rfl rfl ?_
              refine v_aload_n (pc := 190) (i := 0) dX11_typeSet_190 rfl rfl ?_
              refine m_getI (pc := 191) (j := 20) dX11_typeSet_191 flX11_128 rfl rfl ?_
              refine chM_V (pc := 194) gU (as := [si (m18 20 0)]) (st := []) (N := mX11_partWords) (k := 0) (n := 0) (k1 := 0) (n1 := 0) dX11_typeSet_194 lkX11_227 caX11_partWords cvX11_partWords rfl rfl (fun Q1 hq => tX11_partWords a0 h (m18 20 0) m18 Q1 hq) ⟨by decide, by decide⟩ (Nat.le_of_ble_eq_true rfl) rfl hF (fun x19 m20 hF => ?_)
              show gV G mX11_typeSet 6 Q 197 [some (sr (some a0)), some (si a1), some (si x1), none] [] (0) (0) (jn a0 h m20)
              refine v_aload_n (pc := 197) (i := 0) dX11_typeSet_197 rfl rfl ?_
              refine chM_V (pc := 198) gU (as := []) (st := []) (N := mX11_comeAnswer) (k := 0) (n := 0) (k1 := 0) (n1 := 0) dX11_typeSet_198 lkX11_203 caX11_comeAnswer cvX11_comeAnswer rfl rfl (fun Q1 hq => tX11_comeAnswer a0 h m20 Q1 hq) ⟨by decide, by decide⟩ (Nat.le_of_ble_eq_true rfl) rfl hF (fun x21 m22 hF => ?_)
              show gV G mX11_typeSet 6 Q 201 [some (sr (some a0)), some (si a1), some (si x1), none] [] (0) (0) (jn a0 h m22)
              exact v_ret (pc := 201) dX11_typeSet_201 rfl (okr hF fun q => q)
            replace hF := (okB_if hF).1 hc
            refine v_aload_n (pc := 165) (i := 0) dX11_typeSet_165 rfl rfl ?_
            refine chM_V (pc := 166) gU (as := []) (st := []) (N := mX11_takeLast) (k := 0) (n := 0) (k1 := 0) (n1 := 0) dX11_typeSet_166 lkX11_382 caX11_takeLast cvX11_takeLast rfl rfl (fun Q1 hq => tX11_takeLast a0 h m Q1 hq) ⟨by decide, by decide⟩ (Nat.le_of_ble_eq_true rfl) rfl hF (fun x23 m24 hF => ?_)
            show gV G mX11_typeSet 6 Q 169 [some (sr (some a0)), some (si a1), some (si x1), none] [] (0) (0) (jn a0 h m24)
            refine v_goto (pc := 169) 201 dX11_typeSet_169 rfl ?_
            exact v_ret (pc := 201) dX11_typeSet_201 rfl (okr hF fun q => q)
          replace hF := (okB_if hF).1 hc
          refine v_aload_n (pc := 135) (i := 0) dX11_typeSet_135 rfl rfl ?_
          refine v_aload_n (pc := 136) (i := 0) dX11_typeSet_136 rfl rfl ?_
          refine v_bipush (pc := 137) (v := (32 : Int32)) dX11_typeSet_137 rfl ?_
          refine chM_V (pc := 139) gI (as := [si (32 : Int32)]) (st := [sr (some a0)]) (N := mX11_type) (k := 0) (n := 0) (k1 := 0) (n1 := 0) dX11_typeSet_139 lkX11_373 caX11_type cvX11_type rfl rfl (fun Q1 hq => tX11_type a0 h (32 : Int32) m Q1 hq) ⟨by decide, by decide⟩ (Nat.le_of_ble_eq_true rfl) rfl hF (fun x25 m26 hF => ?_)
          show gV G mX11_typeSet 6 Q 142 [some (sr (some a0)), some (si a1), some (si x1), none] [si x25, sr (some a0)] (0) (0) (jn a0 h m26)
          refine mg (X := fun q27 => gV G mX11_typeSet 6 Q 153 [none, none, none, none] [si q27, sr (some a0)] (0) (0) (jn a0 h m26)) hF (fun _ hj28 hF => ?_) (fun q27 hF => ?_)
          · refine v_if_eq (pc := 142) 149 dX11_typeSet_142 rfl (fun hc => ?_) (fun hc => ?_)
            · replace hF := (okB_if hF).1 hc
              refine v_aload_n (pc := 149) (i := 0) dX11_typeSet_149 rfl rfl ?_
              refine m_getI (pc := 150) (j := 24) dX11_typeSet_150 flX11_349 rfl rfl ?_
              exact v_lle [none, none, none, none] trivial (hj28 (m26 24 0) (okB_some hF))
            replace hF := (okB_if hF).2 hc
            refine v_iconst (pc := 145) (v := (0 : Int32)) dX11_typeSet_145 rfl ?_
            refine v_goto (pc := 146) 153 dX11_typeSet_146 rfl ?_
            exact v_lle [none, none, none, none] trivial (hj28 (0 : Int32) (okB_some hF))
          refine m_putZ (pc := 153) (j := 24) dX11_typeSet_153 flX11_349 rfl rfl rfl hF (fun m29 hF => ?_)
          refine v_goto (pc := 156) 201 dX11_typeSet_156 rfl ?_
          exact v_ret (pc := 201) dX11_typeSet_201 rfl (okr hF fun q => q)
        replace hF := (okB_if hF).1 hc
        refine v_aload_n (pc := 86) (i := 0) dX11_typeSet_86 rfl rfl ?_
        refine v_iload_n (pc := 87) (i := 1) dX11_typeSet_87 rfl rfl ?_
        refine v_bipush (pc := 88) (v := (50 : Int32)) dX11_typeSet_88 rfl ?_
        refine mg (X := fun q30 => gV G mX11_typeSet 6 Q 121 [none, none, none, none] [si q30, sr (some a0)] (0) (0) (jn a0 h m)) hF (fun _ hj31 hF => ?_) (fun q30 hF => ?_)
        · refine v_icmp_ne (pc := 90) 98 dX11_typeSet_90 rfl (fun hc => ?_) (fun hc => ?_)
          · replace hF := (okB_if hF).2 hc
            refine v_iload_n (pc := 98) (i := 1) dX11_typeSet_98 rfl rfl ?_
            refine v_iconst (pc := 99) (v := (2 : Int32)) dX11_typeSet_99 rfl ?_
            refine v_icmp_ne (pc := 100) 108 dX11_typeSet_100 rfl (fun hc => ?_) (fun hc => ?_)
            · replace hF := (okB_if hF).2 hc
              refine v_iload_n (pc := 108) (i := 1) dX11_typeSet_108 rfl rfl ?_
              refine v_bipush (pc := 109) (v := (38 : Int32)) dX11_typeSet_109 rfl ?_
              refine v_icmp_ne (pc := 111) 119 dX11_typeSet_111 rfl (fun hc => ?_) (fun hc => ?_)
              · replace hF := (okB_if hF).2 hc
                refine v_bipush (pc := 119) (v := (45 : Int32)) dX11_typeSet_119 rfl ?_
                exact v_lle [none, none, none, none] trivial (hj31 (45 : Int32) (okB_some hF))
              replace hF := (okB_if hF).1 hc
              refine v_bipush (pc := 114) (v := (63 : Int32)) dX11_typeSet_114 rfl ?_
              refine v_goto (pc := 116) 121 dX11_typeSet_116 rfl ?_
              exact v_lle [none, none, none, none] trivial (hj31 (63 : Int32) (okB_some hF))
            replace hF := (okB_if hF).1 hc
            refine v_bipush (pc := 103) (v := (44 : Int32)) dX11_typeSet_103 rfl ?_
            refine v_goto (pc := 105) 121 dX11_typeSet_105 rfl ?_
            exact v_lle [none, none, none, none] trivial (hj31 (44 : Int32) (okB_some hF))
          replace hF := (okB_if hF).1 hc
          refine v_bipush (pc := 93) (v := (46 : Int32)) dX11_typeSet_93 rfl ?_
          refine v_goto (pc := 95) 121 dX11_typeSet_95 rfl ?_
          exact v_lle [none, none, none, none] trivial (hj31 (46 : Int32) (okB_some hF))
        refine chM_V (pc := 121) gI (as := [si q30]) (st := []) (N := mX11_type) (k := 0) (n := 0) (k1 := 0) (n1 := 0) dX11_typeSet_121 lkX11_373 caX11_type cvX11_type rfl rfl (fun Q1 hq => tX11_type a0 h q30 m Q1 hq) ⟨by decide, by decide⟩ (Nat.le_of_ble_eq_true rfl) rfl hF (fun x32 m33 hF => ?_)
        show gV G mX11_typeSet 6 Q 124 [none, none, none, none] [si x32] (0) (0) (jn a0 h m33)
        refine v_istore_n (pc := 124) (i := 3) [none, none, none, some (si x32)] dX11_typeSet_124 rfl (by decide) rfl rfl ?_
        refine v_goto (pc := 125) 201 dX11_typeSet_125 rfl ?_
        exact v_ret (pc := 201) dX11_typeSet_201 rfl (okr hF fun q => q)
      replace hF := (okB_if hF).1 hc
      refine v_aload_n (pc := 45) (i := 0) dX11_typeSet_45 rfl rfl ?_
      refine v_iload_n (pc := 46) (i := 1) dX11_typeSet_46 rfl rfl ?_
      refine v_bipush (pc := 47) (v := (60 : Int32)) dX11_typeSet_47 rfl ?_
      refine mg (X := fun q34 => gV G mX11_typeSet 6 Q 57 [none, none, none, none] [si q34, sr (some a0)] (0) (0) (jn a0 h m)) hF (fun _ hj35 hF => ?_) (fun q34 hF => ?_)
      · refine v_icmp_ne (pc := 49) 56 dX11_typeSet_49 rfl (fun hc => ?_) (fun hc => ?_)
        · replace hF := (okB_if hF).2 hc
          refine v_iconst (pc := 56) (v := (0 : Int32)) dX11_typeSet_56 rfl ?_
          exact v_lle [none, none, none, none] trivial (hj35 (0 : Int32) (okB_some hF))
        replace hF := (okB_if hF).1 hc
        refine v_iconst (pc := 52) (v := (1 : Int32)) dX11_typeSet_52 rfl ?_
        refine v_goto (pc := 53) 57 dX11_typeSet_53 rfl ?_
        exact v_lle [none, none, none, none] trivial (hj35 (1 : Int32) (okB_some hF))
      refine m_putZ (pc := 57) (j := 24) dX11_typeSet_57 flX11_349 rfl rfl rfl hF (fun m36 hF => ?_)
      refine v_goto (pc := 60) 201 dX11_typeSet_60 rfl ?_
      exact v_ret (pc := 201) dX11_typeSet_201 rfl (okr hF fun q => q)
    replace hF := (okB_if hF).1 hc
    refine v_aload_n (pc := 25) (i := 0) dX11_typeSet_25 rfl rfl ?_
    refine v_iconst (pc := 26) (v := (1 : Int32)) dX11_typeSet_26 rfl ?_
    refine m_putZ (pc := 27) (j := 23) dX11_typeSet_27 flX11_346 rfl rfl rfl hF (fun m37 hF => ?_)
    refine v_goto (pc := 30) 201 dX11_typeSet_30 rfl ?_
    exact v_ret (pc := 201) dX11_typeSet_201 rfl (okr hF fun q => q)
  replace hF := (okB_if hF).2 hc
  refine v_aload_n (pc := 11) (i := 0) dX11_typeSet_11 rfl rfl ?_
  refine v_iload_n (pc := 12) (i := 2) dX11_typeSet_12 rfl rfl ?_
  refine chM_V (pc := 13) gU (as := [si x1]) (st := []) (N := mX11_typeLetter) (k := 0) (n := 0) (k1 := 0) (n1 := 0) dX11_typeSet_13 lkX11_379 caX11_typeLetter cvX11_typeLetter rfl rfl (fun Q1 hq => tX11_typeLetter a0 h x1 m Q1 hq) ⟨by decide, by decide⟩ (Nat.le_of_ble_eq_true rfl) rfl hF (fun x38 m39 hF => ?_)
  show gV G mX11_typeSet 6 Q 16 [some (sr (some a0)), some (si a1), some (si x1), none] [] (0) (0) (jn a0 h m39)
  refine v_goto (pc := 16) 201 dX11_typeSet_16 rfl ?_
  exact v_ret (pc := 201) dX11_typeSet_201 rfl (okr hF fun q => q)
/-! BrailleDeskModel.doChord -/
theorem tX11_doChord {G : gG} (a0 : Nat) (h : hp) (a1 : Int32) (m : mm) (Q : hQ) (hF : okB (fX11_doChord a1 m) (pM gU Q a0 h)) : gS G mX11_doChord 9 0 0 [sr (some a0), si a1] (jn a0 h m) Q := by
  delta fX11_doChord at hF
  refine gS_at [some (sr (some a0)), some (si a1)] pl_X11 rfl (Nat.le_of_ble_eq_true rfl) rfl ?_
  refine v_iload_n (pc := 0) (i := 1) dX11_doChord_0 rfl rfl ?_
  refine v_sipush (pc := 1) (v := (256 : Int32)) dX11_doChord_1 rfl ?_
  refine mg (X := fun q1 => gV G mX11_doChord 9 Q 46 [some (sr (some a0)), none] [] (0) (0) (jn a0 h q1)) hF (fun _ hj2 hF => ?_) (fun q1 hF => ?_)
  · refine v_icmp_le (pc := 4) 19 dX11_doChord_4 rfl (fun hc => ?_) (fun hc => ?_)
    · replace hF := (okB_if hF).1 hc
      refine v_aload_n (pc := 19) (i := 0) dX11_doChord_19 rfl rfl ?_
      refine m_getI (pc := 20) (j := 22) dX11_doChord_20 flX11_267 rfl rfl ?_
      refine v_if_eq (pc := 23) 34 dX11_doChord_23 rfl (fun hc => ?_) (fun hc => ?_)
      · replace hF := (okB_if hF).1 hc
        refine v_iload_n (pc := 34) (i := 1) dX11_doChord_34 rfl rfl ?_
        refine v_sipush (pc := 35) (v := (256 : Int32)) dX11_doChord_35 rfl ?_
        refine v_icmp_ge (pc := 38) 46 dX11_doChord_38 rfl (fun hc => ?_) (fun hc => ?_)
        · replace hF := (okB_if hF).1 hc
          exact v_lle [some (sr (some a0)), none] ⟨rfl, trivial⟩ (hj2 m (okB_some hF))
        replace hF := (okB_if hF).2 hc
        refine v_aload_n (pc := 41) (i := 0) dX11_doChord_41 rfl rfl ?_
        refine v_iload_n (pc := 42) (i := 1) dX11_doChord_42 rfl rfl ?_
        refine chM_V (pc := 43) gU (as := [si a1]) (st := []) (N := mX11_goLetter) (k := 0) (n := 0) (k1 := 0) (n1 := 0) dX11_doChord_43 lkX11_391 caX11_goLetter cvX11_goLetter rfl rfl (fun Q1 hq => tX11_goLetter a0 h a1 m Q1 hq) ⟨by decide, by decide⟩ (Nat.le_of_ble_eq_true rfl) rfl hF (fun x3 m4 hF => ?_)
        show gV G mX11_doChord 9 Q 46 [some (sr (some a0)), some (si a1)] [] (0) (0) (jn a0 h m4)
        exact v_lle [some (sr (some a0)), none] ⟨rfl, trivial⟩ (hj2 m4 (okB_some hF))
      replace hF := (okB_if hF).2 hc
      refine v_aload_n (pc := 26) (i := 0) dX11_doChord_26 rfl rfl ?_
      refine v_iload_n (pc := 27) (i := 1) dX11_doChord_27 rfl rfl ?_
      refine chM_V (pc := 28) gU (as := [si a1]) (st := []) (N := mX11_typeSet) (k := 0) (n := 0) (k1 := 0) (n1 := 0) dX11_doChord_28 lkX11_388 caX11_typeSet cvX11_typeSet rfl rfl (fun Q1 hq => tX11_typeSet a0 h a1 m Q1 hq) ⟨by decide, by decide⟩ (Nat.le_of_ble_eq_true rfl) rfl hF (fun x5 m6 hF => ?_)
      show gV G mX11_doChord 9 Q 31 [some (sr (some a0)), some (si a1)] [] (0) (0) (jn a0 h m6)
      refine v_goto (pc := 31) 46 dX11_doChord_31 rfl ?_
      exact v_lle [some (sr (some a0)), none] ⟨rfl, trivial⟩ (hj2 m6 (okB_some hF))
    replace hF := (okB_if hF).2 hc
    refine v_aload_n (pc := 7) (i := 0) dX11_doChord_7 rfl rfl ?_
    refine v_iload_n (pc := 8) (i := 1) dX11_doChord_8 rfl rfl ?_
    refine v_sipush (pc := 9) (v := (256 : Int32)) dX11_doChord_9 rfl ?_
    refine v_isub (pc := 12) dX11_doChord_12 ?_
    refine chM_V (pc := 13) gU (as := [si (a1 - (256 : Int32))]) (st := []) (N := mX11_command) (k := 0) (n := 0) (k1 := 0) (n1 := 0) dX11_doChord_13 lkX11_385 caX11_command cvX11_command rfl rfl (fun Q1 hq => tX11_command a0 h (a1 - (256 : Int32)) m Q1 hq) ⟨by decide, by decide⟩ (Nat.le_of_ble_eq_true rfl) rfl hF (fun x7 m8 hF => ?_)
    show gV G mX11_doChord 9 Q 16 [some (sr (some a0)), some (si a1)] [] (0) (0) (jn a0 h m8)
    refine v_goto (pc := 16) 46 dX11_doChord_16 rfl ?_
    exact v_lle [some (sr (some a0)), none] ⟨rfl, trivial⟩ (hj2 m8 (okB_some hF))
  refine v_aload_n (pc := 46) (i := 0) dX11_doChord_46 rfl rfl ?_
  refine chM_V (pc := 47) gU (as := []) (st := []) (N := mX11_fitOffset) (k := 0) (n := 0) (k1 := 0) (n1 := 0) dX11_doChord_47 lkX11_295 caX11_fitOffset cvX11_fitOffset rfl rfl (fun Q1 hq => tX11_fitOffset a0 h q1 Q1 hq) ⟨by decide, by decide⟩ (Nat.le_of_ble_eq_true rfl) rfl hF (fun x9 m10 hF => ?_)
  show gV G mX11_doChord 9 Q 50 [some (sr (some a0)), none] [] (0) (0) (jn a0 h m10)
  exact v_ret (pc := 50) dX11_doChord_50 rfl (okr hF fun q => q)
/-! BrailleDeskModel.bits -/
theorem lX11_bits_4 {G : gG} {Q : hQ} {P : Int32 → Prop} {k n : Nat} {h : hp}  (hJ : ∀ q : Int32, P q → gV G mX11_bits 0 Q 21 [none, some (si q), none] [] (k) (n) h) : ∀ (fu : Nat) (a : (Int32 × Int32)), okB (itr (fX11_bits_B4) fu a) P → gV G mX11_bits 0 Q 4 [none, some (si a.1), some (si a.2)] [] (k) (n) h :=
  lpg (X := fun (a : (Int32 × Int32)) => gV G mX11_bits 0 Q 4 [none, some (si a.1), some (si a.2)] [] (k) (n) h) (fun a P2 hL hE hF => by
    delta fX11_bits_B4 at hF
    refine v_iload_n (pc := 4) (i := 2) dX11_bits_4 rfl rfl ?_
    refine v_if_le (pc := 5) 21 dX11_bits_5 rfl (fun hc => ?_) (fun hc => ?_)
    · replace hF := (okB_if hF).1 hc
      exact v_lle [none, some (si a.1), none] ⟨rfl, trivial⟩ (hJ a.1 (hE _ (okB_some hF)))
    replace hF := (okB_if hF).2 hc
    refine v_iload_n (pc := 8) (i := 1) dX11_bits_8 rfl rfl ?_
    refine v_iload_n (pc := 9) (i := 2) dX11_bits_9 rfl rfl ?_
    refine v_iconst (pc := 10) (v := (1 : Int32)) dX11_bits_10 rfl ?_
    refine v_iand (pc := 11) dX11_bits_11 ?_
    refine v_iadd (pc := 12) dX11_bits_12 ?_
    refine v_istore_n (pc := 13) (i := 1) [none, some (si (a.1 + (a.2 &&& (1 : Int32)))), some (si a.2)] dX11_bits_13 rfl (by decide) rfl rfl ?_
    refine v_iload_n (pc := 14) (i := 2) dX11_bits_14 rfl rfl ?_
    refine v_iconst (pc := 15) (v := (1 : Int32)) dX11_bits_15 rfl ?_
    refine v_ishr (pc := 16) dX11_bits_16 ?_
    refine v_istore_n (pc := 17) (i := 2) [none, some (si (a.1 + (a.2 &&& (1 : Int32)))), some (si (a.2 >>> ((1 : Int32) &&& 31)))] dX11_bits_17 rfl (by decide) rfl rfl ?_
    refine v_goto (pc := 18) 4 dX11_bits_18 rfl ?_
    exact v_lle [none, some (si (a.1 + (a.2 &&& (1 : Int32)))), some (si (a.2 >>> ((1 : Int32) &&& 31)))] ⟨rfl, rfl, trivial⟩ (hL (a.1 + (a.2 &&& (1 : Int32)), a.2 >>> ((1 : Int32) &&& 31)) (okB_some hF)))
theorem tX11_bits {G : gG} (a0 : Int32) (h : hp) (Q : hQ) (hF : okB (fX11_bits a0) (pP gI Q h)) : gS G mX11_bits 0 0 0 [si a0] h Q := by
  delta fX11_bits at hF
  refine gS_at [some (si a0), none, none] pl_X11 rfl (Nat.le_of_ble_eq_true rfl) rfl ?_
  refine v_iconst (pc := 0) (v := (0 : Int32)) dX11_bits_0 rfl ?_
  refine v_istore_n (pc := 1) (i := 1) [some (si a0), some (si (0 : Int32)), none] dX11_bits_1 rfl (by decide) rfl rfl ?_
  refine v_iload_n (pc := 2) (i := 0) dX11_bits_2 rfl rfl ?_
  refine v_istore_n (pc := 3) (i := 2) [some (si a0), some (si (0 : Int32)), some (si a0)] dX11_bits_3 rfl (by decide) rfl rfl ?_
  refine mg (X := fun q1 => gV G mX11_bits 0 Q 21 [none, some (si q1), none] [] (0) (0) h) hF (fun _ hj2 hF => v_lle [none, some (si (0 : Int32)), some (si a0)] ⟨rfl, rfl, trivial⟩ (lX11_bits_4  hj2 FU ((0 : Int32), a0) hF)) (fun q1 hF => ?_)
  refine v_iload_n (pc := 21) (i := 1) dX11_bits_21 rfl rfl ?_
  exact v_iret (pc := 22) dX11_bits_22 rfl rfl (okr hF fun q => q)
/-! BrailleDeskModel.press -/
theorem tX11_press {G : gG} (a0 : Nat) (h : hp) (a1 : Int32) (m : mm) (Q : hQ) (hF : okB (fX11_press a1 m) (pM gI Q a0 h)) : gS G mX11_press 1 0 0 [sr (some a0), si a1] (jn a0 h m) Q := by
  delta fX11_press at hF
  refine gS_at [some (sr (some a0)), some (si a1)] pl_X11 rfl (Nat.le_of_ble_eq_true rfl) rfl ?_
  refine v_aload_n (pc := 0) (i := 0) dX11_press_0 rfl rfl ?_
  refine v_iload_n (pc := 1) (i := 1) dX11_press_1 rfl rfl ?_
  refine v_iconst (pc := 2) (v := (0 : Int32)) dX11_press_2 rfl ?_
  refine v_bipush (pc := 3) (v := (8 : Int32)) dX11_press_3 rfl ?_
  refine cp_S (pc := 5) gI (as := [si a1, si (0 : Int32), si (8 : Int32)]) (st := [sr (some a0)]) (N := mX11_in) (k := 0) (n := 0) (k1 := 0) (n1 := 0) dX11_press_5 lkX11_114 caX11_in csX11_in rfl (fun Q1 hq => tX11_in a1 (0 : Int32) (8 : Int32) (jn a0 h m) Q1 hq) ⟨by decide, by decide⟩ (Nat.le_of_ble_eq_true rfl) rfl hF (fun x1 hF => ?_)
  show gV G mX11_press 1 Q 8 [some (sr (some a0)), some (si a1)] [si x1, sr (some a0)] (0) (0) (jn a0 h m)
  refine mg (X := fun q2 => gV G mX11_press 1 Q 32 [some (sr (some a0)), some (si a1)] [si q2, sr (some a0)] (0) (0) (jn a0 h m)) hF (fun _ hj3 hF => ?_) (fun q2 hF => ?_)
  · refine v_if_ne (pc := 8) 15 dX11_press_8 rfl (fun hc => ?_) (fun hc => ?_)
    · replace hF := (okB_if hF).2 hc
      refine v_aload_n (pc := 15) (i := 0) dX11_press_15 rfl rfl ?_
      refine m_getI (pc := 16) (j := 26) dX11_press_16 flX11_394 rfl rfl ?_
      refine v_iload_n (pc := 19) (i := 1) dX11_press_19 rfl rfl ?_
      refine v_ishr (pc := 20) dX11_press_20 ?_
      refine v_iconst (pc := 21) (v := (1 : Int32)) dX11_press_21 rfl ?_
      refine v_iand (pc := 22) dX11_press_22 ?_
      refine v_iconst (pc := 23) (v := (1 : Int32)) dX11_press_23 rfl ?_
      refine v_icmp_ne (pc := 24) 31 dX11_press_24 rfl (fun hc => ?_) (fun hc => ?_)
      · replace hF := (okB_if hF).2 hc
        refine v_iconst (pc := 31) (v := (0 : Int32)) dX11_press_31 rfl ?_
        exact v_lle [some (sr (some a0)), some (si a1)] ⟨rfl, rfl, trivial⟩ (hj3 (0 : Int32) (okB_some hF))
      replace hF := (okB_if hF).1 hc
      refine v_iconst (pc := 27) (v := (2 : Int32)) dX11_press_27 rfl ?_
      refine v_goto (pc := 28) 32 dX11_press_28 rfl ?_
      exact v_lle [some (sr (some a0)), some (si a1)] ⟨rfl, rfl, trivial⟩ (hj3 (2 : Int32) (okB_some hF))
    replace hF := (okB_if hF).1 hc
    refine v_iconst (pc := 11) (v := (1 : Int32)) dX11_press_11 rfl ?_
    refine v_goto (pc := 12) 32 dX11_press_12 rfl ?_
    exact v_lle [some (sr (some a0)), some (si a1)] ⟨rfl, rfl, trivial⟩ (hj3 (1 : Int32) (okB_some hF))
  refine m_putI (pc := 32) (j := 48) dX11_press_32 flX11_111 rfl rfl rfl hF (fun m4 hF => ?_)
  refine v_aload_n (pc := 35) (i := 0) dX11_press_35 rfl rfl ?_
  refine m_getI (pc := 36) (j := 48) dX11_press_36 flX11_111 rfl rfl ?_
  refine v_if_le (pc := 39) 44 dX11_press_39 rfl (fun hc => ?_) (fun hc => ?_)
  · replace hF := (okB_if hF).1 hc
    refine v_aload_n (pc := 44) (i := 0) dX11_press_44 rfl rfl ?_
    refine v_aload_n (pc := 45) (i := 0) dX11_press_45 rfl rfl ?_
    refine m_getI (pc := 46) (j := 26) dX11_press_46 flX11_394 rfl rfl ?_
    refine mg (X := fun q5 => gV G mX11_press 1 Q 60 [some (sr (some a0)), some (si a1)] [si q5, sr (some a0)] (0) (0) (jn a0 h m4)) hF (fun _ hj6 hF => ?_) (fun q5 hF => ?_)
    · refine v_if_ne (pc := 49) 56 dX11_press_49 rfl (fun hc => ?_) (fun hc => ?_)
      · replace hF := (okB_if hF).2 hc
        refine v_aload_n (pc := 56) (i := 0) dX11_press_56 rfl rfl ?_
        refine m_getI (pc := 57) (j := 27) dX11_press_57 flX11_397 rfl rfl ?_
        exact v_lle [some (sr (some a0)), some (si a1)] ⟨rfl, rfl, trivial⟩ (hj6 (m4 27 0) (okB_some hF))
      replace hF := (okB_if hF).1 hc
      refine v_iconst (pc := 52) (v := (0 : Int32)) dX11_press_52 rfl ?_
      refine v_goto (pc := 53) 60 dX11_press_53 rfl ?_
      exact v_lle [some (sr (some a0)), some (si a1)] ⟨rfl, rfl, trivial⟩ (hj6 (0 : Int32) (okB_some hF))
    refine m_putI (pc := 60) (j := 27) dX11_press_60 flX11_397 rfl rfl rfl hF (fun m7 hF => ?_)
    refine v_aload_n (pc := 63) (i := 0) dX11_press_63 rfl rfl ?_
    refine v_dup (pc := 64) dX11_press_64 rfl ?_
    refine m_getI (pc := 65) (j := 27) dX11_press_65 flX11_397 rfl rfl ?_
    refine v_iconst (pc := 68) (v := (1 : Int32)) dX11_press_68 rfl ?_
    refine v_iload_n (pc := 69) (i := 1) dX11_press_69 rfl rfl ?_
    refine v_ishl (pc := 70) dX11_press_70 ?_
    refine v_ior (pc := 71) dX11_press_71 ?_
    refine m_putI (pc := 72) (j := 27) dX11_press_72 flX11_397 rfl rfl rfl hF (fun m8 hF => ?_)
    refine v_aload_n (pc := 75) (i := 0) dX11_press_75 rfl rfl ?_
    refine v_dup (pc := 76) dX11_press_76 rfl ?_
    refine m_getI (pc := 77) (j := 26) dX11_press_77 flX11_394 rfl rfl ?_
    refine v_iconst (pc := 80) (v := (1 : Int32)) dX11_press_80 rfl ?_
    refine v_iload_n (pc := 81) (i := 1) dX11_press_81 rfl rfl ?_
    refine v_ishl (pc := 82) dX11_press_82 ?_
    refine v_ior (pc := 83) dX11_press_83 ?_
    refine m_putI (pc := 84) (j := 26) dX11_press_84 flX11_394 rfl rfl rfl hF (fun m9 hF => ?_)
    refine v_aload_n (pc := 87) (i := 0) dX11_press_87 rfl rfl ?_
    refine m_getI (pc := 88) (j := 26) dX11_press_88 flX11_394 rfl rfl ?_
    refine cp_S (pc := 91) gI (as := [si (m9 26 0)]) (st := []) (N := mX11_bits) (k := 0) (n := 0) (k1 := 0) (n1 := 0) dX11_press_91 lkX11_400 caX11_bits csX11_bits rfl (fun Q1 hq => tX11_bits (m9 26 0) (jn a0 h m9) Q1 hq) ⟨by decide, by decide⟩ (Nat.le_of_ble_eq_true rfl) rfl hF (fun x10 hF => ?_)
    show gV G mX11_press 1 Q 94 [some (sr (some a0)), some (si a1)] [si x10] (0) (0) (jn a0 h m9)
    exact v_iret (pc := 94) dX11_press_94 rfl rfl (okr hF fun q => q)
  replace hF := (okB_if hF).2 hc
  refine v_iconst (pc := 42) (v := (0 : Int32)) dX11_press_42 rfl ?_
  exact v_iret (pc := 43) dX11_press_43 rfl rfl (okr hF fun q => q)
