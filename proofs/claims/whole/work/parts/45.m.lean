/-! ===== methods: their functions and rows ===== -/
theorem dX11_lose_0 : decode cX11_lose 0 = .ok (.aload_n 0, 1) := by decide +kernel
theorem dX11_lose_1 : decode cX11_lose 1 = .ok (.getfield 105, 3) := by decide +kernel
theorem dX11_lose_4 : decode cX11_lose 4 = .ok (.iconst (-1), 1) := by decide +kernel
theorem dX11_lose_5 : decode cX11_lose 5 = .ok (.if_icmp .eq 36, 3) := by decide +kernel
theorem dX11_lose_8 : decode cX11_lose 8 = .ok (.aload_n 0, 1) := by decide +kernel
theorem dX11_lose_9 : decode cX11_lose 9 = .ok (.getfield 7, 3) := by decide +kernel
theorem dX11_lose_12 : decode cX11_lose 12 = .ok (.aload_n 0, 1) := by decide +kernel
theorem dX11_lose_13 : decode cX11_lose 13 = .ok (.getfield 105, 3) := by decide +kernel
theorem dX11_lose_16 : decode cX11_lose 16 = .ok (.baload, 1) := by decide +kernel
theorem dX11_lose_17 : decode cX11_lose 17 = .ok (.ifCond .eq 14, 3) := by decide +kernel
theorem dX11_lose_20 : decode cX11_lose 20 = .ok (.aload_n 0, 1) := by decide +kernel
theorem dX11_lose_21 : decode cX11_lose 21 = .ok (.aload_n 0, 1) := by decide +kernel
theorem dX11_lose_22 : decode cX11_lose 22 = .ok (.getfield 105, 3) := by decide +kernel
theorem dX11_lose_25 : decode cX11_lose 25 = .ok (.invokevirtual 224, 3) := by decide +kernel
theorem dX11_lose_28 : decode cX11_lose 28 = .ok (.ifCond .ne 13, 3) := by decide +kernel
theorem dX11_lose_31 : decode cX11_lose 31 = .ok (.aload_n 0, 1) := by decide +kernel
theorem dX11_lose_32 : decode cX11_lose 32 = .ok (.iconst (-1), 1) := by decide +kernel
theorem dX11_lose_33 : decode cX11_lose 33 = .ok (.putfield 105, 3) := by decide +kernel
theorem dX11_lose_36 : decode cX11_lose 36 = .ok (.aload_n 0, 1) := by decide +kernel
theorem dX11_lose_37 : decode cX11_lose 37 = .ok (.iconst 0, 1) := by decide +kernel
theorem dX11_lose_38 : decode cX11_lose 38 = .ok (.putfield 267, 3) := by decide +kernel
theorem dX11_lose_41 : decode cX11_lose 41 = .ok (.aload_n 0, 1) := by decide +kernel
theorem dX11_lose_42 : decode cX11_lose 42 = .ok (.getfield 7, 3) := by decide +kernel
theorem dX11_lose_45 : decode cX11_lose 45 = .ok (.aload_n 0, 1) := by decide +kernel
theorem dX11_lose_46 : decode cX11_lose 46 = .ok (.getfield 128, 3) := by decide +kernel
theorem dX11_lose_49 : decode cX11_lose 49 = .ok (.baload, 1) := by decide +kernel
theorem dX11_lose_50 : decode cX11_lose 50 = .ok (.ifCond .eq 14, 3) := by decide +kernel
theorem dX11_lose_53 : decode cX11_lose 53 = .ok (.aload_n 0, 1) := by decide +kernel
theorem dX11_lose_54 : decode cX11_lose 54 = .ok (.aload_n 0, 1) := by decide +kernel
theorem dX11_lose_55 : decode cX11_lose 55 = .ok (.getfield 128, 3) := by decide +kernel
theorem dX11_lose_58 : decode cX11_lose 58 = .ok (.invokevirtual 224, 3) := by decide +kernel
theorem dX11_lose_61 : decode cX11_lose 61 = .ok (.ifCond .ne 54, 3) := by decide +kernel
theorem dX11_lose_64 : decode cX11_lose 64 = .ok (.aload_n 0, 1) := by decide +kernel
theorem dX11_lose_65 : decode cX11_lose 65 = .ok (.aload_n 0, 1) := by decide +kernel
theorem dX11_lose_66 : decode cX11_lose 66 = .ok (.iload_n 1, 1) := by decide +kernel
theorem dX11_lose_67 : decode cX11_lose 67 = .ok (.iload_n 2, 1) := by decide +kernel
theorem dX11_lose_68 : decode cX11_lose 68 = .ok (.iload_n 3, 1) := by decide +kernel
theorem dX11_lose_69 : decode cX11_lose 69 = .ok (.invokevirtual 298, 3) := by decide +kernel
theorem dX11_lose_72 : decode cX11_lose 72 = .ok (.putfield 128, 3) := by decide +kernel
theorem dX11_lose_75 : decode cX11_lose 75 = .ok (.aload_n 0, 1) := by decide +kernel
theorem dX11_lose_76 : decode cX11_lose 76 = .ok (.iconst 0, 1) := by decide +kernel
theorem dX11_lose_77 : decode cX11_lose 77 = .ok (.putfield 274, 3) := by decide +kernel
theorem dX11_lose_80 : decode cX11_lose 80 = .ok (.aload_n 0, 1) := by decide +kernel
theorem dX11_lose_81 : decode cX11_lose 81 = .ok (.iconst 0, 1) := by decide +kernel
theorem dX11_lose_82 : decode cX11_lose 82 = .ok (.putfield 143, 3) := by decide +kernel
theorem dX11_lose_85 : decode cX11_lose 85 = .ok (.aload_n 0, 1) := by decide +kernel
theorem dX11_lose_86 : decode cX11_lose 86 = .ok (.iconst 0, 1) := by decide +kernel
theorem dX11_lose_87 : decode cX11_lose 87 = .ok (.iconst 0, 1) := by decide +kernel
theorem dX11_lose_88 : decode cX11_lose 88 = .ok (.iconst 0, 1) := by decide +kernel
theorem dX11_lose_89 : decode cX11_lose 89 = .ok (.bipush 108, 2) := by decide +kernel
theorem dX11_lose_91 : decode cX11_lose 91 = .ok (.bipush 111, 2) := by decide +kernel
theorem dX11_lose_93 : decode cX11_lose 93 = .ok (.bipush 115, 2) := by decide +kernel
theorem dX11_lose_95 : decode cX11_lose 95 = .ok (.bipush 116, 2) := by decide +kernel
theorem dX11_lose_97 : decode cX11_lose 97 = .ok (.invokestatic 133, 3) := by decide +kernel
theorem dX11_lose_100 : decode cX11_lose 100 = .ok (.invokevirtual 160, 3) := by decide +kernel
theorem dX11_lose_103 : decode cX11_lose 103 = .ok (.aload_n 0, 1) := by decide +kernel
theorem dX11_lose_104 : decode cX11_lose 104 = .ok (.aload_n 0, 1) := by decide +kernel
theorem dX11_lose_105 : decode cX11_lose 105 = .ok (.getfield 128, 3) := by decide +kernel
theorem dX11_lose_108 : decode cX11_lose 108 = .ok (.invokevirtual 227, 3) := by decide +kernel
theorem dX11_lose_111 : decode cX11_lose 111 = .ok (.aload_n 0, 1) := by decide +kernel
theorem dX11_lose_112 : decode cX11_lose 112 = .ok (.invokevirtual 209, 3) := by decide +kernel
theorem dX11_lose_115 : decode cX11_lose 115 = .ok (.return_, 1) := by decide +kernel
theorem dX11_isBelow_0 : decode cX11_isBelow 0 = .ok (.iload_n 1, 1) := by decide +kernel
theorem dX11_isBelow_1 : decode cX11_isBelow 1 = .ok (.istore_n 3, 1) := by decide +kernel
theorem dX11_isBelow_2 : decode cX11_isBelow 2 = .ok (.iload_n 3, 1) := by decide +kernel
theorem dX11_isBelow_3 : decode cX11_isBelow 3 = .ok (.iconst (-1), 1) := by decide +kernel
theorem dX11_isBelow_4 : decode cX11_isBelow 4 = .ok (.if_icmp .eq 18, 3) := by decide +kernel
theorem dX11_isBelow_7 : decode cX11_isBelow 7 = .ok (.iload_n 3, 1) := by decide +kernel
theorem dX11_isBelow_8 : decode cX11_isBelow 8 = .ok (.iload_n 2, 1) := by decide +kernel
theorem dX11_isBelow_9 : decode cX11_isBelow 9 = .ok (.if_icmp .eq 13, 3) := by decide +kernel
theorem dX11_isBelow_12 : decode cX11_isBelow 12 = .ok (.aload_n 0, 1) := by decide +kernel
theorem dX11_isBelow_13 : decode cX11_isBelow 13 = .ok (.getfield 17, 3) := by decide +kernel
theorem dX11_isBelow_16 : decode cX11_isBelow 16 = .ok (.iload_n 3, 1) := by decide +kernel
theorem dX11_isBelow_17 : decode cX11_isBelow 17 = .ok (.iaload, 1) := by decide +kernel
theorem dX11_isBelow_18 : decode cX11_isBelow 18 = .ok (.istore_n 3, 1) := by decide +kernel
theorem dX11_isBelow_19 : decode cX11_isBelow 19 = .ok (.goto (-17), 3) := by decide +kernel
theorem dX11_isBelow_22 : decode cX11_isBelow 22 = .ok (.iload_n 3, 1) := by decide +kernel
theorem dX11_isBelow_23 : decode cX11_isBelow 23 = .ok (.iload_n 2, 1) := by decide +kernel
theorem dX11_isBelow_24 : decode cX11_isBelow 24 = .ok (.if_icmp .ne 7, 3) := by decide +kernel
theorem dX11_isBelow_27 : decode cX11_isBelow 27 = .ok (.iconst 1, 1) := by decide +kernel
theorem dX11_isBelow_28 : decode cX11_isBelow 28 = .ok (.goto 4, 3) := by decide +kernel
theorem dX11_isBelow_31 : decode cX11_isBelow 31 = .ok (.iconst 0, 1) := by decide +kernel
theorem dX11_isBelow_32 : decode cX11_isBelow 32 = .ok (.ireturn, 1) := by decide +kernel
theorem dX11_remove_0 : decode cX11_remove 0 = .ok (.aload_n 0, 1) := by decide +kernel
theorem dX11_remove_1 : decode cX11_remove 1 = .ok (.aload_n 0, 1) := by decide +kernel
theorem dX11_remove_2 : decode cX11_remove 2 = .ok (.iload_n 1, 1) := by decide +kernel
theorem dX11_remove_3 : decode cX11_remove 3 = .ok (.invokevirtual 118, 3) := by decide +kernel
theorem dX11_remove_6 : decode cX11_remove 6 = .ok (.ifCond .ne 7, 3) := by decide +kernel
theorem dX11_remove_9 : decode cX11_remove 9 = .ok (.iconst 1, 1) := by decide +kernel
theorem dX11_remove_10 : decode cX11_remove 10 = .ok (.goto 21, 3) := by decide +kernel
theorem dX11_remove_13 : decode cX11_remove 13 = .ok (.iload_n 1, 1) := by decide +kernel
theorem dX11_remove_14 : decode cX11_remove 14 = .ok (.ifCond .eq 12, 3) := by decide +kernel
theorem dX11_remove_17 : decode cX11_remove 17 = .ok (.aload_n 0, 1) := by decide +kernel
theorem dX11_remove_18 : decode cX11_remove 18 = .ok (.getfield 191, 3) := by decide +kernel
theorem dX11_remove_21 : decode cX11_remove 21 = .ok (.bipush 20, 2) := by decide +kernel
theorem dX11_remove_23 : decode cX11_remove 23 = .ok (.if_icmp .lt 7, 3) := by decide +kernel
theorem dX11_remove_26 : decode cX11_remove 26 = .ok (.iconst 2, 1) := by decide +kernel
theorem dX11_remove_27 : decode cX11_remove 27 = .ok (.goto 4, 3) := by decide +kernel
theorem dX11_remove_30 : decode cX11_remove 30 = .ok (.iconst 0, 1) := by decide +kernel
theorem dX11_remove_31 : decode cX11_remove 31 = .ok (.putfield 111, 3) := by decide +kernel
theorem dX11_remove_34 : decode cX11_remove 34 = .ok (.aload_n 0, 1) := by decide +kernel
theorem dX11_remove_35 : decode cX11_remove 35 = .ok (.getfield 111, 3) := by decide +kernel
theorem dX11_remove_38 : decode cX11_remove 38 = .ok (.ifCond .le 5, 3) := by decide +kernel
theorem dX11_remove_41 : decode cX11_remove 41 = .ok (.iconst 0, 1) := by decide +kernel
theorem dX11_remove_42 : decode cX11_remove 42 = .ok (.ireturn, 1) := by decide +kernel
theorem dX11_remove_43 : decode cX11_remove 43 = .ok (.aload_n 0, 1) := by decide +kernel
theorem dX11_remove_44 : decode cX11_remove 44 = .ok (.getfield 17, 3) := by decide +kernel
theorem dX11_remove_47 : decode cX11_remove 47 = .ok (.iload_n 1, 1) := by decide +kernel
theorem dX11_remove_48 : decode cX11_remove 48 = .ok (.iaload, 1) := by decide +kernel
theorem dX11_remove_49 : decode cX11_remove 49 = .ok (.istore_n 2, 1) := by decide +kernel
theorem dX11_remove_50 : decode cX11_remove 50 = .ok (.aload_n 0, 1) := by decide +kernel
theorem dX11_remove_51 : decode cX11_remove 51 = .ok (.iload_n 1, 1) := by decide +kernel
theorem dX11_remove_52 : decode cX11_remove 52 = .ok (.invokevirtual 302, 3) := by decide +kernel
theorem dX11_remove_55 : decode cX11_remove 55 = .ok (.istore_n 3, 1) := by decide +kernel
theorem dX11_remove_56 : decode cX11_remove 56 = .ok (.aload_n 0, 1) := by decide +kernel
theorem dX11_remove_57 : decode cX11_remove 57 = .ok (.iload_n 1, 1) := by decide +kernel
theorem dX11_remove_58 : decode cX11_remove 58 = .ok (.invokevirtual 224, 3) := by decide +kernel
theorem dX11_remove_61 : decode cX11_remove 61 = .ok (.ifCond .eq 11, 3) := by decide +kernel
theorem dX11_remove_64 : decode cX11_remove 64 = .ok (.aload_n 0, 1) := by decide +kernel
theorem dX11_remove_65 : decode cX11_remove 65 = .ok (.iload_n 1, 1) := by decide +kernel
theorem dX11_remove_66 : decode cX11_remove 66 = .ok (.invokevirtual 230, 3) := by decide +kernel
theorem dX11_remove_69 : decode cX11_remove 69 = .ok (.goto 4, 3) := by decide +kernel
theorem dX11_remove_72 : decode cX11_remove 72 = .ok (.iconst (-1), 1) := by decide +kernel
theorem dX11_remove_73 : decode cX11_remove 73 = .ok (.istore 4, 2) := by decide +kernel
theorem dX11_remove_75 : decode cX11_remove 75 = .ok (.iconst 0, 1) := by decide +kernel
theorem dX11_remove_76 : decode cX11_remove 76 = .ok (.istore 5, 2) := by decide +kernel
theorem dX11_remove_78 : decode cX11_remove 78 = .ok (.aload_n 0, 1) := by decide +kernel
theorem dX11_remove_79 : decode cX11_remove 79 = .ok (.iload_n 1, 1) := by decide +kernel
theorem dX11_remove_80 : decode cX11_remove 80 = .ok (.invokevirtual 305, 3) := by decide +kernel
theorem dX11_remove_83 : decode cX11_remove 83 = .ok (.iconst 0, 1) := by decide +kernel
theorem dX11_remove_84 : decode cX11_remove 84 = .ok (.istore 6, 2) := by decide +kernel
theorem dX11_remove_86 : decode cX11_remove 86 = .ok (.iload 6, 2) := by decide +kernel
theorem dX11_remove_88 : decode cX11_remove 88 = .ok (.aload_n 0, 1) := by decide +kernel
theorem dX11_remove_89 : decode cX11_remove 89 = .ok (.getfield 101, 3) := by decide +kernel
theorem dX11_remove_92 : decode cX11_remove 92 = .ok (.if_icmp .ge 46, 3) := by decide +kernel
theorem dX11_remove_95 : decode cX11_remove 95 = .ok (.aload_n 0, 1) := by decide +kernel
theorem dX11_remove_96 : decode cX11_remove 96 = .ok (.getfield 7, 3) := by decide +kernel
theorem dX11_remove_99 : decode cX11_remove 99 = .ok (.iload 6, 2) := by decide +kernel
theorem dX11_remove_101 : decode cX11_remove 101 = .ok (.baload, 1) := by decide +kernel
theorem dX11_remove_102 : decode cX11_remove 102 = .ok (.ifCond .eq 30, 3) := by decide +kernel
theorem dX11_remove_105 : decode cX11_remove 105 = .ok (.aload_n 0, 1) := by decide +kernel
theorem dX11_remove_106 : decode cX11_remove 106 = .ok (.iload 6, 2) := by decide +kernel
theorem dX11_remove_108 : decode cX11_remove 108 = .ok (.iload_n 1, 1) := by decide +kernel
theorem dX11_remove_109 : decode cX11_remove 109 = .ok (.invokevirtual 308, 3) := by decide +kernel
theorem dX11_remove_112 : decode cX11_remove 112 = .ok (.ifCond .eq 20, 3) := by decide +kernel
theorem dX11_remove_115 : decode cX11_remove 115 = .ok (.aload_n 0, 1) := by decide +kernel
theorem dX11_remove_116 : decode cX11_remove 116 = .ok (.getfield 7, 3) := by decide +kernel
theorem dX11_remove_119 : decode cX11_remove 119 = .ok (.iload 6, 2) := by decide +kernel
theorem dX11_remove_121 : decode cX11_remove 121 = .ok (.iconst 0, 1) := by decide +kernel
theorem dX11_remove_122 : decode cX11_remove 122 = .ok (.bastore, 1) := by decide +kernel
theorem dX11_remove_123 : decode cX11_remove 123 = .ok (.aload_n 0, 1) := by decide +kernel
theorem dX11_remove_124 : decode cX11_remove 124 = .ok (.iload 6, 2) := by decide +kernel
theorem dX11_remove_126 : decode cX11_remove 126 = .ok (.invokevirtual 218, 3) := by decide +kernel
theorem dX11_remove_129 : decode cX11_remove 129 = .ok (.iinc 5 1, 3) := by decide +kernel
theorem dX11_remove_132 : decode cX11_remove 132 = .ok (.iinc 6 1, 3) := by decide +kernel
theorem dX11_remove_135 : decode cX11_remove 135 = .ok (.goto (-49), 3) := by decide +kernel
theorem dX11_remove_138 : decode cX11_remove 138 = .ok (.aload_n 0, 1) := by decide +kernel
theorem dX11_remove_139 : decode cX11_remove 139 = .ok (.getfield 23, 3) := by decide +kernel
theorem dX11_remove_142 : decode cX11_remove 142 = .ok (.iload_n 2, 1) := by decide +kernel
theorem dX11_remove_143 : decode cX11_remove 143 = .ok (.dup2, 1) := by decide +kernel
theorem dX11_remove_144 : decode cX11_remove 144 = .ok (.iaload, 1) := by decide +kernel
theorem dX11_remove_145 : decode cX11_remove 145 = .ok (.iconst 1, 1) := by decide +kernel
theorem dX11_remove_146 : decode cX11_remove 146 = .ok (.isub, 1) := by decide +kernel
theorem dX11_remove_147 : decode cX11_remove 147 = .ok (.iastore, 1) := by decide +kernel
theorem dX11_remove_148 : decode cX11_remove 148 = .ok (.iload_n 3, 1) := by decide +kernel
theorem dX11_remove_149 : decode cX11_remove 149 = .ok (.istore 6, 2) := by decide +kernel
theorem dX11_remove_151 : decode cX11_remove 151 = .ok (.iload 6, 2) := by decide +kernel
theorem dX11_remove_153 : decode cX11_remove 153 = .ok (.aload_n 0, 1) := by decide +kernel
theorem dX11_remove_154 : decode cX11_remove 154 = .ok (.getfield 23, 3) := by decide +kernel
theorem dX11_remove_157 : decode cX11_remove 157 = .ok (.iload_n 2, 1) := by decide +kernel
theorem dX11_remove_158 : decode cX11_remove 158 = .ok (.iaload, 1) := by decide +kernel
theorem dX11_remove_159 : decode cX11_remove 159 = .ok (.if_icmp .ge 35, 3) := by decide +kernel
theorem dX11_remove_162 : decode cX11_remove 162 = .ok (.aload_n 0, 1) := by decide +kernel
theorem dX11_remove_163 : decode cX11_remove 163 = .ok (.getfield 20, 3) := by decide +kernel
theorem dX11_remove_166 : decode cX11_remove 166 = .ok (.bipush 10, 2) := by decide +kernel
theorem dX11_remove_168 : decode cX11_remove 168 = .ok (.iload_n 2, 1) := by decide +kernel
theorem dX11_remove_169 : decode cX11_remove 169 = .ok (.imul, 1) := by decide +kernel
theorem dX11_remove_170 : decode cX11_remove 170 = .ok (.iload 6, 2) := by decide +kernel
theorem dX11_remove_172 : decode cX11_remove 172 = .ok (.iadd, 1) := by decide +kernel
theorem dX11_remove_173 : decode cX11_remove 173 = .ok (.aload_n 0, 1) := by decide +kernel
theorem dX11_remove_174 : decode cX11_remove 174 = .ok (.getfield 20, 3) := by decide +kernel
theorem dX11_remove_177 : decode cX11_remove 177 = .ok (.bipush 10, 2) := by decide +kernel
theorem dX11_remove_179 : decode cX11_remove 179 = .ok (.iload_n 2, 1) := by decide +kernel
theorem dX11_remove_180 : decode cX11_remove 180 = .ok (.imul, 1) := by decide +kernel
theorem dX11_remove_181 : decode cX11_remove 181 = .ok (.iload 6, 2) := by decide +kernel
theorem dX11_remove_183 : decode cX11_remove 183 = .ok (.iadd, 1) := by decide +kernel
theorem dX11_remove_184 : decode cX11_remove 184 = .ok (.iconst 1, 1) := by decide +kernel
theorem dX11_remove_185 : decode cX11_remove 185 = .ok (.iadd, 1) := by decide +kernel
theorem dX11_remove_186 : decode cX11_remove 186 = .ok (.iaload, 1) := by decide +kernel
theorem dX11_remove_187 : decode cX11_remove 187 = .ok (.iastore, 1) := by decide +kernel
theorem dX11_remove_188 : decode cX11_remove 188 = .ok (.iinc 6 1, 3) := by decide +kernel
theorem dX11_remove_191 : decode cX11_remove 191 = .ok (.goto (-40), 3) := by decide +kernel
theorem dX11_remove_194 : decode cX11_remove 194 = .ok (.aload_n 0, 1) := by decide +kernel
theorem dX11_remove_195 : decode cX11_remove 195 = .ok (.iload 4, 2) := by decide +kernel
theorem dX11_remove_197 : decode cX11_remove 197 = .ok (.invokevirtual 233, 3) := by decide +kernel
theorem dX11_remove_200 : decode cX11_remove 200 = .ok (.aload_n 0, 1) := by decide +kernel
theorem dX11_remove_201 : decode cX11_remove 201 = .ok (.iload_n 2, 1) := by decide +kernel
theorem dX11_remove_202 : decode cX11_remove 202 = .ok (.iload_n 3, 1) := by decide +kernel
theorem dX11_remove_203 : decode cX11_remove 203 = .ok (.iload_n 3, 1) := by decide +kernel
theorem dX11_remove_204 : decode cX11_remove 204 = .ok (.iconst 1, 1) := by decide +kernel
theorem dX11_remove_205 : decode cX11_remove 205 = .ok (.isub, 1) := by decide +kernel
theorem dX11_remove_206 : decode cX11_remove 206 = .ok (.invokevirtual 311, 3) := by decide +kernel
theorem dX11_remove_209 : decode cX11_remove 209 = .ok (.aload_n 0, 1) := by decide +kernel
theorem dX11_remove_210 : decode cX11_remove 210 = .ok (.invokevirtual 295, 3) := by decide +kernel
theorem dX11_remove_213 : decode cX11_remove 213 = .ok (.iload 5, 2) := by decide +kernel
theorem dX11_remove_215 : decode cX11_remove 215 = .ok (.ireturn, 1) := by decide +kernel
abbrev mX11_lose : gM := (yX11_lose, cX11_lose, 4, (Option.none : Option FieldType), [])
theorem caX11_lose : cal mX11_lose 3 := ⟨xw 1737 (by decide +kernel) rfl, xw 102 (by decide +kernel) rfl, by decide, by decide +kernel⟩
theorem cvX11_lose : calV mX11_lose := ⟨xw 1736 (by decide +kernel) rfl, xw 58 (by decide +kernel) rfl⟩
abbrev mX11_isBelow : gM := (yX11_isBelow, cX11_isBelow, 4, (Option.some FieldType.boolean), [])
theorem caX11_isBelow : cal mX11_isBelow 2 := ⟨xw 1733 (by decide +kernel) rfl, xw 102 (by decide +kernel) rfl, by decide, by decide +kernel⟩
theorem cvX11_isBelow : calV mX11_isBelow := ⟨xw 1732 (by decide +kernel) rfl, xw 57 (by decide +kernel) rfl⟩
abbrev mX11_remove : gM := (yX11_remove, cX11_remove, 7, (Option.some FieldType.int), [])
theorem caX11_remove : cal mX11_remove 1 := ⟨xw 1721 (by decide +kernel) rfl, xw 102 (by decide +kernel) rfl, by decide, by decide +kernel⟩
theorem cvX11_remove : calV mX11_remove := ⟨xw 1719 (by decide +kernel) rfl, xw 1720 (by decide +kernel) rfl⟩
theorem lkX11_298 : Cond.methodLink RX11 298 yX11_refuge ∈ XW := xw 1738 (by decide +kernel) rfl
theorem lkX11_302 : Cond.methodLink RX11 302 yX11_placeOf ∈ XW := xw 1722 (by decide +kernel) rfl
theorem lkX11_305 : Cond.methodLink RX11 305 yX11_makeGone ∈ XW := xw 1726 (by decide +kernel) rfl
theorem lkX11_308 : Cond.methodLink RX11 308 yX11_isBelow ∈ XW := xw 1730 (by decide +kernel) rfl
theorem lkX11_311 : Cond.methodLink RX11 311 yX11_lose ∈ XW := xw 1734 (by decide +kernel) rfl
/-! BrailleDeskModel.lose -/
theorem tX11_lose {G : gG} (a0 : Nat) (h : hp) (a1 : Int32) (a2 : Int32) (a3 : Int32) (m : mm) (Q : hQ) (hF : okB (fX11_lose a1 a2 a3 m) (pM gU Q a0 h)) : gS G mX11_lose 5 0 0 [sr (some a0), si a1, si a2, si a3] (jn a0 h m) Q := by
  delta fX11_lose at hF
  refine gS_at [some (sr (some a0)), some (si a1), some (si a2), some (si a3)] pl_X11 rfl (Nat.le_of_ble_eq_true rfl) rfl ?_
  refine v_aload_n (pc := 0) (i := 0) dX11_lose_0 rfl rfl ?_
  refine m_getI (pc := 1) (j := 21) dX11_lose_1 flX11_105 rfl rfl ?_
  refine v_iconst (pc := 4) (v := (-1 : Int32)) dX11_lose_4 rfl ?_
  refine mg (X := fun q1 => gV G mX11_lose 5 Q 41 [some (sr (some a0)), some (si a1), some (si a2), some (si a3)] [] (0) (0) (jn a0 h q1)) hF (fun _ hj2 hF => ?_) (fun q1 hF => ?_)
  · refine v_icmp_eq (pc := 5) 41 dX11_lose_5 rfl (fun hc => ?_) (fun hc => ?_)
    · replace hF := (okB_if hF).1 hc
      exact v_lle [some (sr (some a0)), some (si a1), some (si a2), some (si a3)] ⟨rfl, rfl, rfl, rfl, trivial⟩ (hj2 m (okB_some hF))
    replace hF := (okB_if hF).2 hc
    refine v_aload_n (pc := 8) (i := 0) dX11_lose_8 rfl rfl ?_
    refine m_getA (pc := 9) (j := 1) dX11_lose_9 flX11_7 rfl (by decide) ?_
    refine v_aload_n (pc := 12) (i := 0) dX11_lose_12 rfl rfl ?_
    refine m_getI (pc := 13) (j := 21) dX11_lose_13 flX11_105 rfl rfl ?_
    refine m_zald (pc := 16) (j := 1) dX11_lose_16 hF (fun x3 hF => ?_)
    refine mgR (X := fun q4 => gV G mX11_lose 5 Q 31 [some (sr (some a0)), some (si a1), some (si a2), some (si a3)] [] (0) (0) (jn a0 h m)) hF (fun _ hj5 hr5 hF => ?_) (fun q4 hF => ?_)
    · refine v_if_eq (pc := 17) 31 dX11_lose_17 rfl (fun hc => ?_) (fun hc => ?_)
      · replace hF := (okB_if hF).1 hc
        exact v_lle [some (sr (some a0)), some (si a1), some (si a2), some (si a3)] ⟨rfl, rfl, rfl, rfl, trivial⟩ (hj5 () (okB_some hF))
      replace hF := (okB_if hF).2 hc
      refine v_aload_n (pc := 20) (i := 0) dX11_lose_20 rfl rfl ?_
      refine v_aload_n (pc := 21) (i := 0) dX11_lose_21 rfl rfl ?_
      refine m_getI (pc := 22) (j := 21) dX11_lose_22 flX11_105 rfl rfl ?_
      refine cpM_V (pc := 25) gI (as := [si (m 21 0)]) (st := []) (N := mX11_shows) (k := 0) (n := 0) (k1 := 0) (n1 := 0) dX11_lose_25 lkX11_224 caX11_shows cvX11_shows rfl rfl (fun Q1 hq => tX11_shows a0 h (m 21 0) m Q1 hq) ⟨by decide, by decide⟩ (Nat.le_of_ble_eq_true rfl) rfl hF (fun x6 hF => ?_)
      show gV G mX11_lose 5 Q 28 [some (sr (some a0)), some (si a1), some (si a2), some (si a3)] [si x6] (0) (0) (jn a0 h m)
      refine v_if_ne (pc := 28) 41 dX11_lose_28 rfl (fun hc => ?_) (fun hc => ?_)
      · replace hF := (okB_if hF).2 hc
        exact v_lle [some (sr (some a0)), some (si a1), some (si a2), some (si a3)] ⟨rfl, rfl, rfl, rfl, trivial⟩ (hj2 m (hr5 _ (okB_some hF)))
      replace hF := (okB_if hF).1 hc
      exact v_lle [some (sr (some a0)), some (si a1), some (si a2), some (si a3)] ⟨rfl, rfl, rfl, rfl, trivial⟩ (hj5 () (okB_some hF))
    refine v_aload_n (pc := 31) (i := 0) dX11_lose_31 rfl rfl ?_
    refine v_iconst (pc := 32) (v := (-1 : Int32)) dX11_lose_32 rfl ?_
    refine m_putI (pc := 33) (j := 21) dX11_lose_33 flX11_105 rfl rfl rfl hF (fun m7 hF => ?_)
    refine v_aload_n (pc := 36) (i := 0) dX11_lose_36 rfl rfl ?_
    refine v_iconst (pc := 37) (v := (0 : Int32)) dX11_lose_37 rfl ?_
    refine m_putZ (pc := 38) (j := 22) dX11_lose_38 flX11_267 rfl rfl rfl hF (fun m8 hF => ?_)
    exact v_lle [some (sr (some a0)), some (si a1), some (si a2), some (si a3)] ⟨rfl, rfl, rfl, rfl, trivial⟩ (hj2 m8 (okB_some hF))
  refine v_aload_n (pc := 41) (i := 0) dX11_lose_41 rfl rfl ?_
  refine m_getA (pc := 42) (j := 1) dX11_lose_42 flX11_7 rfl (by decide) ?_
  refine v_aload_n (pc := 45) (i := 0) dX11_lose_45 rfl rfl ?_
  refine m_getI (pc := 46) (j := 20) dX11_lose_46 flX11_128 rfl rfl ?_
  refine m_zald (pc := 49) (j := 1) dX11_lose_49 hF (fun x9 hF => ?_)
  refine v_if_eq (pc := 50) 64 dX11_lose_50 rfl (fun hc => ?_) (fun hc => ?_)
  · replace hF := (okB_if hF).1 hc
    refine v_aload_n (pc := 64) (i := 0) dX11_lose_64 rfl rfl ?_
    refine v_aload_n (pc := 65) (i := 0) dX11_lose_65 rfl rfl ?_
    refine v_iload_n (pc := 66) (i := 1) dX11_lose_66 rfl rfl ?_
    refine v_iload_n (pc := 67) (i := 2) dX11_lose_67 rfl rfl ?_
    refine v_iload_n (pc := 68) (i := 3) dX11_lose_68 rfl rfl ?_
    refine cpM_V (pc := 69) gI (as := [si a1, si a2, si a3]) (st := [sr (some a0)]) (N := mX11_refuge) (k := 0) (n := 0) (k1 := 0) (n1 := 0) dX11_lose_69 lkX11_298 caX11_refuge cvX11_refuge rfl rfl (fun Q1 hq => tX11_refuge a0 h a1 a2 a3 q1 Q1 hq) ⟨by decide, by decide⟩ (Nat.le_of_ble_eq_true rfl) rfl hF (fun x10 hF => ?_)
    show gV G mX11_lose 5 Q 72 [some (sr (some a0)), some (si a1), some (si a2), some (si a3)] [si x10, sr (some a0)] (0) (0) (jn a0 h q1)
    refine m_putI (pc := 72) (j := 20) dX11_lose_72 flX11_128 rfl rfl rfl hF (fun m11 hF => ?_)
    refine v_aload_n (pc := 75) (i := 0) dX11_lose_75 rfl rfl ?_
    refine v_iconst (pc := 76) (v := (0 : Int32)) dX11_lose_76 rfl ?_
    refine m_putI (pc := 77) (j := 25) dX11_lose_77 flX11_274 rfl rfl rfl hF (fun m12 hF => ?_)
    refine v_aload_n (pc := 80) (i := 0) dX11_lose_80 rfl rfl ?_
    refine v_iconst (pc := 81) (v := (0 : Int32)) dX11_lose_81 rfl ?_
    refine m_putI (pc := 82) (j := 29) dX11_lose_82 flX11_143 rfl rfl rfl hF (fun m13 hF => ?_)
    refine v_aload_n (pc := 85) (i := 0) dX11_lose_85 rfl rfl ?_
    refine v_iconst (pc := 86) (v := (0 : Int32)) dX11_lose_86 rfl ?_
    refine v_iconst (pc := 87) (v := (0 : Int32)) dX11_lose_87 rfl ?_
    refine v_iconst (pc := 88) (v := (0 : Int32)) dX11_lose_88 rfl ?_
    refine v_bipush (pc := 89) (v := (108 : Int32)) dX11_lose_89 rfl ?_
    refine v_bipush (pc := 91) (v := (111 : Int32)) dX11_lose_91 rfl ?_
    refine v_bipush (pc := 93) (v := (115 : Int32)) dX11_lose_93 rfl ?_
    refine v_bipush (pc := 95) (v := (116 : Int32)) dX11_lose_95 rfl ?_
    refine cp_S (pc := 97) gL (as := [si (0 : Int32), si (0 : Int32), si (0 : Int32), si (108 : Int32), si (111 : Int32), si (115 : Int32), si (116 : Int32)]) (st := [sr (some a0)]) (N := mX11_word) (k := 0) (n := 0) (k1 := 0) (n1 := 0) dX11_lose_97 lkX11_133 caX11_word csX11_word rfl (fun Q1 hq => tX11_word (0 : Int32) (0 : Int32) (0 : Int32) (108 : Int32) (111 : Int32) (115 : Int32) (116 : Int32) (jn a0 h m13) Q1 hq) ⟨by decide, by decide⟩ (Nat.le_of_ble_eq_true rfl) rfl hF (fun x14 hF => ?_)
    show gV G mX11_lose 5 Q 100 [some (sr (some a0)), some (si a1), some (si a2), some (si a3)] [sl x14, sr (some a0)] (0) (0) (jn a0 h m13)
    refine chM_V (pc := 100) gU (as := [sl x14]) (st := []) (N := mX11_partWord) (k := 0) (n := 0) (k1 := 0) (n1 := 0) dX11_lose_100 lkX11_160 caX11_partWord cvX11_partWord rfl rfl (fun Q1 hq => tX11_partWord a0 h x14 m13 Q1 hq) ⟨by decide, by decide⟩ (Nat.le_of_ble_eq_true rfl) rfl hF (fun x15 m16 hF => ?_)
    show gV G mX11_lose 5 Q 103 [some (sr (some a0)), some (si a1), some (si a2), some (si a3)] [] (0) (0) (jn a0 h m16)
    refine v_aload_n (pc := 103) (i := 0) dX11_lose_103 rfl rfl ?_
    refine v_aload_n (pc := 104) (i := 0) dX11_lose_104 rfl rfl ?_
    refine m_getI (pc := 105) (j := 20) dX11_lose_105 flX11_128 rfl rfl ?_
    refine chM_V (pc := 108) gU (as := [si (m16 20 0)]) (st := []) (N := mX11_partWords) (k := 0) (n := 0) (k1 := 0) (n1 := 0) dX11_lose_108 lkX11_227 caX11_partWords cvX11_partWords rfl rfl (fun Q1 hq => tX11_partWords a0 h (m16 20 0) m16 Q1 hq) ⟨by decide, by decide⟩ (Nat.le_of_ble_eq_true rfl) rfl hF (fun x17 m18 hF => ?_)
    show gV G mX11_lose 5 Q 111 [some (sr (some a0)), some (si a1), some (si a2), some (si a3)] [] (0) (0) (jn a0 h m18)
    refine v_aload_n (pc := 111) (i := 0) dX11_lose_111 rfl rfl ?_
    refine chM_V (pc := 112) gU (as := []) (st := []) (N := mX11_comeAlert) (k := 0) (n := 0) (k1 := 0) (n1 := 0) dX11_lose_112 lkX11_209 caX11_comeAlert cvX11_comeAlert rfl rfl (fun Q1 hq => tX11_comeAlert a0 h m18 Q1 hq) ⟨by decide, by decide⟩ (Nat.le_of_ble_eq_true rfl) rfl hF (fun x19 m20 hF => ?_)
    show gV G mX11_lose 5 Q 115 [some (sr (some a0)), some (si a1), some (si a2), some (si a3)] [] (0) (0) (jn a0 h m20)
    exact v_ret (pc := 115) dX11_lose_115 rfl (okr hF fun q => q)
  replace hF := (okB_if hF).2 hc
  refine v_aload_n (pc := 53) (i := 0) dX11_lose_53 rfl rfl ?_
  refine v_aload_n (pc := 54) (i := 0) dX11_lose_54 rfl rfl ?_
  refine m_getI (pc := 55) (j := 20) dX11_lose_55 flX11_128 rfl rfl ?_
  refine cpM_V (pc := 58) gI (as := [si (q1 20 0)]) (st := []) (N := mX11_shows) (k := 0) (n := 0) (k1 := 0) (n1 := 0) dX11_lose_58 lkX11_224 caX11_shows cvX11_shows rfl rfl (fun Q1 hq => tX11_shows a0 h (q1 20 0) q1 Q1 hq) ⟨by decide, by decide⟩ (Nat.le_of_ble_eq_true rfl) rfl hF (fun x21 hF => ?_)
  show gV G mX11_lose 5 Q 61 [some (sr (some a0)), some (si a1), some (si a2), some (si a3)] [si x21] (0) (0) (jn a0 h q1)
  refine v_if_ne (pc := 61) 115 dX11_lose_61 rfl (fun hc => ?_) (fun hc => ?_)
  · replace hF := (okB_if hF).2 hc
    exact v_ret (pc := 115) dX11_lose_115 rfl (okr hF fun q => q)
  replace hF := (okB_if hF).1 hc
  refine v_aload_n (pc := 64) (i := 0) dX11_lose_64 rfl rfl ?_
  refine v_aload_n (pc := 65) (i := 0) dX11_lose_65 rfl rfl ?_
  refine v_iload_n (pc := 66) (i := 1) dX11_lose_66 rfl rfl ?_
  refine v_iload_n (pc := 67) (i := 2) dX11_lose_67 rfl rfl ?_
  refine v_iload_n (pc := 68) (i := 3) dX11_lose_68 rfl rfl ?_
  refine cpM_V (pc := 69) gI (as := [si a1, si a2, si a3]) (st := [sr (some a0)]) (N := mX11_refuge) (k := 0) (n := 0) (k1 := 0) (n1 := 0) dX11_lose_69 lkX11_298 caX11_refuge cvX11_refuge rfl rfl (fun Q1 hq => tX11_refuge a0 h a1 a2 a3 q1 Q1 hq) ⟨by decide, by decide⟩ (Nat.le_of_ble_eq_true rfl) rfl hF (fun x22 hF => ?_)
  show gV G mX11_lose 5 Q 72 [some (sr (some a0)), some (si a1), some (si a2), some (si a3)] [si x22, sr (some a0)] (0) (0) (jn a0 h q1)
  refine m_putI (pc := 72) (j := 20) dX11_lose_72 flX11_128 rfl rfl rfl hF (fun m23 hF => ?_)
  refine v_aload_n (pc := 75) (i := 0) dX11_lose_75 rfl rfl ?_
  refine v_iconst (pc := 76) (v := (0 : Int32)) dX11_lose_76 rfl ?_
  refine m_putI (pc := 77) (j := 25) dX11_lose_77 flX11_274 rfl rfl rfl hF (fun m24 hF => ?_)
  refine v_aload_n (pc := 80) (i := 0) dX11_lose_80 rfl rfl ?_
  refine v_iconst (pc := 81) (v := (0 : Int32)) dX11_lose_81 rfl ?_
  refine m_putI (pc := 82) (j := 29) dX11_lose_82 flX11_143 rfl rfl rfl hF (fun m25 hF => ?_)
  refine v_aload_n (pc := 85) (i := 0) dX11_lose_85 rfl rfl ?_
  refine v_iconst (pc := 86) (v := (0 : Int32)) dX11_lose_86 rfl ?_
  refine v_iconst (pc := 87) (v := (0 : Int32)) dX11_lose_87 rfl ?_
  refine v_iconst (pc := 88) (v := (0 : Int32)) dX11_lose_88 rfl ?_
  refine v_bipush (pc := 89) (v := (108 : Int32)) dX11_lose_89 rfl ?_
  refine v_bipush (pc := 91) (v := (111 : Int32)) dX11_lose_91 rfl ?_
  refine v_bipush (pc := 93) (v := (115 : Int32)) dX11_lose_93 rfl ?_
  refine v_bipush (pc := 95) (v := (116 : Int32)) dX11_lose_95 rfl ?_
  refine cp_S (pc := 97) gL (as := [si (0 : Int32), si (0 : Int32), si (0 : Int32), si (108 : Int32), si (111 : Int32), si (115 : Int32), si (116 : Int32)]) (st := [sr (some a0)]) (N := mX11_word) (k := 0) (n := 0) (k1 := 0) (n1 := 0) dX11_lose_97 lkX11_133 caX11_word csX11_word rfl (fun Q1 hq => tX11_word (0 : Int32) (0 : Int32) (0 : Int32) (108 : Int32) (111 : Int32) (115 : Int32) (116 : Int32) (jn a0 h m25) Q1 hq) ⟨by decide, by decide⟩ (Nat.le_of_ble_eq_true rfl) rfl hF (fun x26 hF => ?_)
  show gV G mX11_lose 5 Q 100 [some (sr (some a0)), some (si a1), some (si a2), some (si a3)] [sl x26, sr (some a0)] (0) (0) (jn a0 h m25)
  refine chM_V (pc := 100) gU (as := [sl x26]) (st := []) (N := mX11_partWord) (k := 0) (n := 0) (k1 := 0) (n1 := 0) dX11_lose_100 lkX11_160 caX11_partWord cvX11_partWord rfl rfl (fun Q1 hq => tX11_partWord a0 h x26 m25 Q1 hq) ⟨by decide, by decide⟩ (Nat.le_of_ble_eq_true rfl) rfl hF (fun x27 m28 hF => ?_)
  show gV G mX11_lose 5 Q 103 [some (sr (some a0)), some (si a1), some (si a2), some (si a3)] [] (0) (0) (jn a0 h m28)
  refine v_aload_n (pc := 103) (i := 0) dX11_lose_103 rfl rfl ?_
  refine v_aload_n (pc := 104) (i := 0) dX11_lose_104 rfl rfl ?_
  refine m_getI (pc := 105) (j := 20) dX11_lose_105 flX11_128 rfl rfl ?_
  refine chM_V (pc := 108) gU (as := [si (m28 20 0)]) (st := []) (N := mX11_partWords) (k := 0) (n := 0) (k1 := 0) (n1 := 0) dX11_lose_108 lkX11_227 caX11_partWords cvX11_partWords rfl rfl (fun Q1 hq => tX11_partWords a0 h (m28 20 0) m28 Q1 hq) ⟨by decide, by decide⟩ (Nat.le_of_ble_eq_true rfl) rfl hF (fun x29 m30 hF => ?_)
  show gV G mX11_lose 5 Q 111 [some (sr (some a0)), some (si a1), some (si a2), some (si a3)] [] (0) (0) (jn a0 h m30)
  refine v_aload_n (pc := 111) (i := 0) dX11_lose_111 rfl rfl ?_
  refine chM_V (pc := 112) gU (as := []) (st := []) (N := mX11_comeAlert) (k := 0) (n := 0) (k1 := 0) (n1 := 0) dX11_lose_112 lkX11_209 caX11_comeAlert cvX11_comeAlert rfl rfl (fun Q1 hq => tX11_comeAlert a0 h m30 Q1 hq) ⟨by decide, by decide⟩ (Nat.le_of_ble_eq_true rfl) rfl hF (fun x31 m32 hF => ?_)
  show gV G mX11_lose 5 Q 115 [some (sr (some a0)), some (si a1), some (si a2), some (si a3)] [] (0) (0) (jn a0 h m32)
  exact v_ret (pc := 115) dX11_lose_115 rfl (okr hF fun q => q)
/-! BrailleDeskModel.isBelow -/
theorem lX11_isBelow_2 {G : gG} {Q : hQ} {P : Int32 → Prop} {k n : Nat} (a0 : Nat) (h : hp) (c2 : Int32) (m : mm) (hJ : ∀ q : Int32, P q → gV G mX11_isBelow 0 Q 22 [none, none, some (si c2), some (si q)] [] (k) (n) (jn a0 h m)) : ∀ (fu : Nat) (a : Int32), okB (itr (fX11_isBelow_B2 c2 m) fu a) P → gV G mX11_isBelow 0 Q 2 [some (sr (some a0)), none, some (si c2), some (si a)] [] (k) (n) (jn a0 h m) :=
  lpg (X := fun (a : Int32) => gV G mX11_isBelow 0 Q 2 [some (sr (some a0)), none, some (si c2), some (si a)] [] (k) (n) (jn a0 h m)) (fun a P2 hL hE hF => by
    delta fX11_isBelow_B2 at hF
    refine v_iload_n (pc := 2) (i := 3) dX11_isBelow_2 rfl rfl ?_
    refine v_iconst (pc := 3) (v := (-1 : Int32)) dX11_isBelow_3 rfl ?_
    refine v_icmp_eq (pc := 4) 22 dX11_isBelow_4 rfl (fun hc => ?_) (fun hc => ?_)
    · replace hF := (okB_if hF).1 hc
      exact v_lle [none, none, some (si c2), some (si a)] ⟨rfl, rfl, trivial⟩ (hJ a (hE _ (okB_some hF)))
    replace hF := (okB_if hF).2 hc
    refine v_iload_n (pc := 7) (i := 3) dX11_isBelow_7 rfl rfl ?_
    refine v_iload_n (pc := 8) (i := 2) dX11_isBelow_8 rfl rfl ?_
    refine v_icmp_eq (pc := 9) 22 dX11_isBelow_9 rfl (fun hc => ?_) (fun hc => ?_)
    · replace hF := (okB_if hF).1 hc
      exact v_lle [none, none, some (si c2), some (si a)] ⟨rfl, rfl, trivial⟩ (hJ a (hE _ (okB_some hF)))
    replace hF := (okB_if hF).2 hc
    refine v_aload_n (pc := 12) (i := 0) dX11_isBelow_12 rfl rfl ?_
    refine m_getA (pc := 13) (j := 3) dX11_isBelow_13 flX11_17 rfl (by decide) ?_
    refine v_iload_n (pc := 16) (i := 3) dX11_isBelow_16 rfl rfl ?_
    refine m_iald (pc := 17) (j := 3) dX11_isBelow_17 hF (fun x1 hF => ?_)
    refine v_istore_n (pc := 18) (i := 3) [some (sr (some a0)), none, some (si c2), some (si x1)] dX11_isBelow_18 rfl (by decide) rfl rfl ?_
    refine v_goto (pc := 19) 2 dX11_isBelow_19 rfl ?_
    exact v_lle [some (sr (some a0)), none, some (si c2), some (si x1)] ⟨rfl, rfl, rfl, trivial⟩ (hL x1 (okB_some hF)))
theorem tX11_isBelow {G : gG} (a0 : Nat) (h : hp) (a1 : Int32) (a2 : Int32) (m : mm) (Q : hQ) (hF : okB (fX11_isBelow a1 a2 m) (pP gI Q (jn a0 h m))) : gS G mX11_isBelow 0 0 0 [sr (some a0), si a1, si a2] (jn a0 h m) Q := by
  delta fX11_isBelow at hF
  refine gS_at [some (sr (some a0)), some (si a1), some (si a2), none] pl_X11 rfl (Nat.le_of_ble_eq_true rfl) rfl ?_
  refine v_iload_n (pc := 0) (i := 1) dX11_isBelow_0 rfl rfl ?_
  refine v_istore_n (pc := 1) (i := 3) [some (sr (some a0)), some (si a1), some (si a2), some (si a1)] dX11_isBelow_1 rfl (by decide) rfl rfl ?_
  refine mg (X := fun q1 => gV G mX11_isBelow 0 Q 22 [none, none, some (si a2), some (si q1)] [] (0) (0) (jn a0 h m)) hF (fun _ hj2 hF => v_lle [some (sr (some a0)), none, some (si a2), some (si a1)] ⟨rfl, rfl, rfl, trivial⟩ (lX11_isBelow_2 a0 h a2 m hj2 FU a1 hF)) (fun q1 hF => ?_)
  refine v_iload_n (pc := 22) (i := 3) dX11_isBelow_22 rfl rfl ?_
  refine v_iload_n (pc := 23) (i := 2) dX11_isBelow_23 rfl rfl ?_
  refine v_icmp_ne (pc := 24) 31 dX11_isBelow_24 rfl (fun hc => ?_) (fun hc => ?_)
  · replace hF := (okB_if hF).2 hc
    refine v_iconst (pc := 31) (v := (0 : Int32)) dX11_isBelow_31 rfl ?_
    exact v_iret (pc := 32) dX11_isBelow_32 rfl rfl (okr hF fun q => q)
  replace hF := (okB_if hF).1 hc
  refine v_iconst (pc := 27) (v := (1 : Int32)) dX11_isBelow_27 rfl ?_
  refine v_goto (pc := 28) 32 dX11_isBelow_28 rfl ?_
  exact v_iret (pc := 32) dX11_isBelow_32 rfl rfl (okr hF fun q => q)
/-! BrailleDeskModel.remove -/
theorem lX11_remove_86 {G : gG} {Q : hQ} {P : (Int32 × mm) → Prop} {k n : Nat} (a0 : Nat) (h : hp) (c1 : Int32) (c2 : Int32) (c3 : Int32) (c4 : Int32) (hJ : ∀ q : (Int32 × mm), P q → gV G mX11_remove 6 Q 138 [some (sr (some a0)), none, some (si c2), some (si c3), some (si c4), some (si q.1), none] [] (k) (n) (jn a0 h q.2)) : ∀ (fu : Nat) (a : (Int32 × Int32 × mm)), okB (itr (fX11_remove_B86 c1 c2 c3 c4) fu a) P → gV G mX11_remove 6 Q 86 [some (sr (some a0)), some (si c1), some (si c2), some (si c3), some (si c4), some (si a.1), some (si a.2.1)] [] (k) (n) (jn a0 h a.2.2) :=
  lpg (X := fun (a : (Int32 × Int32 × mm)) => gV G mX11_remove 6 Q 86 [some (sr (some a0)), some (si c1), some (si c2), some (si c3), some (si c4), some (si a.1), some (si a.2.1)] [] (k) (n) (jn a0 h a.2.2)) (fun a P2 hL hE hF => by
    delta fX11_remove_B86 at hF
    refine v_iload (pc := 86) (i := 6) dX11_remove_86 rfl ?_
    refine v_aload_n (pc := 88) (i := 0) dX11_remove_88 rfl rfl ?_
    refine m_getI (pc := 89) (j := 0) dX11_remove_89 flX11_101 rfl rfl ?_
    refine v_icmp_ge (pc := 92) 138 dX11_remove_92 rfl (fun hc => ?_) (fun hc => ?_)
    · replace hF := (okB_if hF).1 hc
      exact v_lle [some (sr (some a0)), none, some (si c2), some (si c3), some (si c4), some (si a.1), none] ⟨rfl, rfl, rfl, rfl, rfl, trivial⟩ (hJ (a.1, a.2.2) (hE _ (okB_some hF)))
    replace hF := (okB_if hF).2 hc
    refine v_aload_n (pc := 95) (i := 0) dX11_remove_95 rfl rfl ?_
    refine m_getA (pc := 96) (j := 1) dX11_remove_96 flX11_7 rfl (by decide) ?_
    refine v_iload (pc := 99) (i := 6) dX11_remove_99 rfl ?_
    refine m_zald (pc := 101) (j := 1) dX11_remove_101 hF (fun x1 hF => ?_)
    refine v_if_eq (pc := 102) 132 dX11_remove_102 rfl (fun hc => ?_) (fun hc => ?_)
    · replace hF := (okB_if hF).1 hc
      refine v_iinc (pc := 132) (i := 6) (a.2.1 + (1 : Int32)) [some (sr (some a0)), some (si c1), some (si c2), some (si c3), some (si c4), some (si a.1), some (si (a.2.1 + (1 : Int32)))] dX11_remove_132 rfl rfl rfl rfl ?_
      refine v_goto (pc := 135) 86 dX11_remove_135 rfl ?_
      exact v_lle [some (sr (some a0)), some (si c1), some (si c2), some (si c3), some (si c4), some (si a.1), some (si (a.2.1 + (1 : Int32)))] ⟨rfl, rfl, rfl, rfl, rfl, rfl, rfl, trivial⟩ (hL (a.1, a.2.1 + (1 : Int32), a.2.2) (okB_some hF))
    replace hF := (okB_if hF).2 hc
    refine v_aload_n (pc := 105) (i := 0) dX11_remove_105 rfl rfl ?_
    refine v_iload (pc := 106) (i := 6) dX11_remove_106 rfl ?_
    refine v_iload_n (pc := 108) (i := 1) dX11_remove_108 rfl rfl ?_
    refine cpM_V (pc := 109) gI (as := [si a.2.1, si c1]) (st := []) (N := mX11_isBelow) (k := k) (n := n) (k1 := 0) (n1 := 0) dX11_remove_109 lkX11_308 caX11_isBelow cvX11_isBelow rfl rfl (fun Q1 hq => tX11_isBelow a0 h a.2.1 c1 a.2.2 Q1 hq) ⟨by decide, by decide⟩ (Nat.le_of_ble_eq_true rfl) rfl hF (fun x2 hF => ?_)
    show gV G mX11_remove 6 Q 112 [some (sr (some a0)), some (si c1), some (si c2), some (si c3), some (si c4), some (si a.1), some (si a.2.1)] [si x2] (k) (n) (jn a0 h a.2.2)
    refine v_if_eq (pc := 112) 132 dX11_remove_112 rfl (fun hc => ?_) (fun hc => ?_)
    · replace hF := (okB_if hF).1 hc
      refine v_iinc (pc := 132) (i := 6) (a.2.1 + (1 : Int32)) [some (sr (some a0)), some (si c1), some (si c2), some (si c3), some (si c4), some (si a.1), some (si (a.2.1 + (1 : Int32)))] dX11_remove_132 rfl rfl rfl rfl ?_
      refine v_goto (pc := 135) 86 dX11_remove_135 rfl ?_
      exact v_lle [some (sr (some a0)), some (si c1), some (si c2), some (si c3), some (si c4), some (si a.1), some (si (a.2.1 + (1 : Int32)))] ⟨rfl, rfl, rfl, rfl, rfl, rfl, rfl, trivial⟩ (hL (a.1, a.2.1 + (1 : Int32), a.2.2) (okB_some hF))
    replace hF := (okB_if hF).2 hc
    refine v_aload_n (pc := 115) (i := 0) dX11_remove_115 rfl rfl ?_
    refine m_getA (pc := 116) (j := 1) dX11_remove_116 flX11_7 rfl (by decide) ?_
    refine v_iload (pc := 119) (i := 6) dX11_remove_119 rfl ?_
    refine v_iconst (pc := 121) (v := (0 : Int32)) dX11_remove_121 rfl ?_
    refine m_zast (pc := 122) (j := 1) dX11_remove_122 hF (fun m3 hF => ?_)
    refine v_aload_n (pc := 123) (i := 0) dX11_remove_123 rfl rfl ?_
    refine v_iload (pc := 124) (i := 6) dX11_remove_124 rfl ?_
    refine chM_V (pc := 126) gU (as := [si a.2.1]) (st := []) (N := mX11_swallow) (k := k) (n := n) (k1 := 0) (n1 := 0) dX11_remove_126 lkX11_218 caX11_swallow cvX11_swallow rfl rfl (fun Q1 hq => tX11_swallow a0 h a.2.1 m3 Q1 hq) ⟨by decide, by decide⟩ (Nat.le_of_ble_eq_true rfl) rfl hF (fun x4 m5 hF => ?_)
    show gV G mX11_remove 6 Q 129 [some (sr (some a0)), some (si c1), some (si c2), some (si c3), some (si c4), some (si a.1), some (si a.2.1)] [] (k) (n) (jn a0 h m5)
    refine v_iinc (pc := 129) (i := 5) (a.1 + (1 : Int32)) [some (sr (some a0)), some (si c1), some (si c2), some (si c3), some (si c4), some (si (a.1 + (1 : Int32))), some (si a.2.1)] dX11_remove_129 rfl rfl rfl rfl ?_
    refine v_iinc (pc := 132) (i := 6) (a.2.1 + (1 : Int32)) [some (sr (some a0)), some (si c1), some (si c2), some (si c3), some (si c4), some (si (a.1 + (1 : Int32))), some (si (a.2.1 + (1 : Int32)))] dX11_remove_132 rfl rfl rfl rfl ?_
    refine v_goto (pc := 135) 86 dX11_remove_135 rfl ?_
    exact v_lle [some (sr (some a0)), some (si c1), some (si c2), some (si c3), some (si c4), some (si (a.1 + (1 : Int32))), some (si (a.2.1 + (1 : Int32)))] ⟨rfl, rfl, rfl, rfl, rfl, rfl, rfl, trivial⟩ (hL (a.1 + (1 : Int32), a.2.1 + (1 : Int32), m5) (okB_some hF)))
theorem lX11_remove_151 {G : gG} {Q : hQ} {P : mm → Prop} {k n : Nat} (a0 : Nat) (h : hp) (c2 : Int32) (c3 : Int32) (c4 : Int32) (c5 : Int32) (hJ : ∀ q : mm, P q → gV G mX11_remove 6 Q 194 [some (sr (some a0)), none, some (si c2), some (si c3), some (si c4), some (si c5), none] [] (k) (n) (jn a0 h q)) : ∀ (fu : Nat) (a : (Int32 × mm)), okB (itr (fX11_remove_B151 c2 c3 c4 c5) fu a) P → gV G mX11_remove 6 Q 151 [some (sr (some a0)), none, some (si c2), some (si c3), some (si c4), some (si c5), some (si a.1)] [] (k) (n) (jn a0 h a.2) :=
  lpg (X := fun (a : (Int32 × mm)) => gV G mX11_remove 6 Q 151 [some (sr (some a0)), none, some (si c2), some (si c3), some (si c4), some (si c5), some (si a.1)] [] (k) (n) (jn a0 h a.2)) (fun a P2 hL hE hF => by
    delta fX11_remove_B151 at hF
    refine v_iload (pc := 151) (i := 6) dX11_remove_151 rfl ?_
    refine v_aload_n (pc := 153) (i := 0) dX11_remove_153 rfl rfl ?_
    refine m_getA (pc := 154) (j := 5) dX11_remove_154 flX11_23 rfl (by decide) ?_
    refine v_iload_n (pc := 157) (i := 2) dX11_remove_157 rfl rfl ?_
    refine m_iald (pc := 158) (j := 5) dX11_remove_158 hF (fun x1 hF => ?_)
    refine v_icmp_ge (pc := 159) 194 dX11_remove_159 rfl (fun hc => ?_) (fun hc => ?_)
    · replace hF := (okB_if hF).1 hc
      exact v_lle [some (sr (some a0)), none, some (si c2), some (si c3), some (si c4), some (si c5), none] ⟨rfl, rfl, rfl, rfl, rfl, trivial⟩ (hJ a.2 (hE _ (okB_some hF)))
    replace hF := (okB_if hF).2 hc
    refine v_aload_n (pc := 162) (i := 0) dX11_remove_162 rfl rfl ?_
    refine m_getA (pc := 163) (j := 4) dX11_remove_163 flX11_20 rfl (by decide) ?_
    refine v_bipush (pc := 166) (v := (10 : Int32)) dX11_remove_166 rfl ?_
    refine v_iload_n (pc := 168) (i := 2) dX11_remove_168 rfl rfl ?_
    refine v_imul (pc := 169) dX11_remove_169 ?_
    refine v_iload (pc := 170) (i := 6) dX11_remove_170 rfl ?_
    refine v_iadd (pc := 172) dX11_remove_172 ?_
    refine v_aload_n (pc := 173) (i := 0) dX11_remove_173 rfl rfl ?_
    refine m_getA (pc := 174) (j := 4) dX11_remove_174 flX11_20 rfl (by decide) ?_
    refine v_bipush (pc := 177) (v := (10 : Int32)) dX11_remove_177 rfl ?_
    refine v_iload_n (pc := 179) (i := 2) dX11_remove_179 rfl rfl ?_
    refine v_imul (pc := 180) dX11_remove_180 ?_
    refine v_iload (pc := 181) (i := 6) dX11_remove_181 rfl ?_
    refine v_iadd (pc := 183) dX11_remove_183 ?_
    refine v_iconst (pc := 184) (v := (1 : Int32)) dX11_remove_184 rfl ?_
    refine v_iadd (pc := 185) dX11_remove_185 ?_
    refine m_iald (pc := 186) (j := 4) dX11_remove_186 hF (fun x2 hF => ?_)
    refine m_iast (pc := 187) (j := 4) dX11_remove_187 hF (fun m3 hF => ?_)
    refine v_iinc (pc := 188) (i := 6) (a.1 + (1 : Int32)) [some (sr (some a0)), none, some (si c2), some (si c3), some (si c4), some (si c5), some (si (a.1 + (1 : Int32)))] dX11_remove_188 rfl rfl rfl rfl ?_
    refine v_goto (pc := 191) 151 dX11_remove_191 rfl ?_
    exact v_lle [some (sr (some a0)), none, some (si c2), some (si c3), some (si c4), some (si c5), some (si (a.1 + (1 : Int32)))] ⟨rfl, rfl, rfl, rfl, rfl, rfl, trivial⟩ (hL (a.1 + (1 : Int32), m3) (okB_some hF)))
theorem tX11_remove {G : gG} (a0 : Nat) (h : hp) (a1 : Int32) (m : mm) (Q : hQ) (hF : okB (fX11_remove a1 m) (pM gI Q a0 h)) : gS G mX11_remove 6 0 0 [sr (some a0), si a1] (jn a0 h m) Q := by
  delta fX11_remove at hF
  refine gS_at [some (sr (some a0)), some (si a1), none, none, none, none, none] pl_X11 rfl (Nat.le_of_ble_eq_true rfl) rfl ?_
  refine v_aload_n (pc := 0) (i := 0) dX11_remove_0 rfl rfl ?_
  refine v_aload_n (pc := 1) (i := 0) dX11_remove_1 rfl rfl ?_
  refine v_iload_n (pc := 2) (i := 1) dX11_remove_2 rfl rfl ?_
  refine cpM_V (pc := 3) gI (as := [si a1]) (st := [sr (some a0)]) (N := mX11_isElement) (k := 0) (n := 0) (k1 := 0) (n1 := 0) dX11_remove_3 lkX11_118 caX11_isElement cvX11_isElement rfl rfl (fun Q1 hq => tX11_isElement a0 h a1 m Q1 hq) ⟨by decide, by decide⟩ (Nat.le_of_ble_eq_true rfl) rfl hF (fun x1 hF => ?_)
  show gV G mX11_remove 6 Q 6 [some (sr (some a0)), some (si a1), none, none, none, none, none] [si x1, sr (some a0)] (0) (0) (jn a0 h m)
  refine mg (X := fun q2 => gV G mX11_remove 6 Q 31 [some (sr (some a0)), some (si a1), none, none, none, none, none] [si q2, sr (some a0)] (0) (0) (jn a0 h m)) hF (fun _ hj3 hF => ?_) (fun q2 hF => ?_)
  · refine v_if_ne (pc := 6) 13 dX11_remove_6 rfl (fun hc => ?_) (fun hc => ?_)
    · replace hF := (okB_if hF).2 hc
      refine v_iload_n (pc := 13) (i := 1) dX11_remove_13 rfl rfl ?_
      refine v_if_eq (pc := 14) 26 dX11_remove_14 rfl (fun hc => ?_) (fun hc => ?_)
      · replace hF := (okB_if hF).1 hc
        refine v_iconst (pc := 26) (v := (2 : Int32)) dX11_remove_26 rfl ?_
        refine v_goto (pc := 27) 31 dX11_remove_27 rfl ?_
        exact v_lle [some (sr (some a0)), some (si a1), none, none, none, none, none] ⟨rfl, rfl, trivial⟩ (hj3 (2 : Int32) (okB_some hF))
      replace hF := (okB_if hF).2 hc
      refine v_aload_n (pc := 17) (i := 0) dX11_remove_17 rfl rfl ?_
      refine m_getI (pc := 18) (j := 37) dX11_remove_18 flX11_191 rfl rfl ?_
      refine v_bipush (pc := 21) (v := (20 : Int32)) dX11_remove_21 rfl ?_
      refine v_icmp_lt (pc := 23) 30 dX11_remove_23 rfl (fun hc => ?_) (fun hc => ?_)
      · replace hF := (okB_if hF).1 hc
        refine v_iconst (pc := 30) (v := (0 : Int32)) dX11_remove_30 rfl ?_
        exact v_lle [some (sr (some a0)), some (si a1), none, none, none, none, none] ⟨rfl, rfl, trivial⟩ (hj3 (0 : Int32) (okB_some hF))
      replace hF := (okB_if hF).2 hc
      refine v_iconst (pc := 26) (v := (2 : Int32)) dX11_remove_26 rfl ?_
      refine v_goto (pc := 27) 31 dX11_remove_27 rfl ?_
      exact v_lle [some (sr (some a0)), some (si a1), none, none, none, none, none] ⟨rfl, rfl, trivial⟩ (hj3 (2 : Int32) (okB_some hF))
    replace hF := (okB_if hF).1 hc
    refine v_iconst (pc := 9) (v := (1 : Int32)) dX11_remove_9 rfl ?_
    refine v_goto (pc := 10) 31 dX11_remove_10 rfl ?_
    exact v_lle [some (sr (some a0)), some (si a1), none, none, none, none, none] ⟨rfl, rfl, trivial⟩ (hj3 (1 : Int32) (okB_some hF))
  refine m_putI (pc := 31) (j := 48) dX11_remove_31 flX11_111 rfl rfl rfl hF (fun m4 hF => ?_)
  refine v_aload_n (pc := 34) (i := 0) dX11_remove_34 rfl rfl ?_
  refine m_getI (pc := 35) (j := 48) dX11_remove_35 flX11_111 rfl rfl ?_
  refine v_if_le (pc := 38) 43 dX11_remove_38 rfl (fun hc => ?_) (fun hc => ?_)
  · replace hF := (okB_if hF).1 hc
    refine v_aload_n (pc := 43) (i := 0) dX11_remove_43 rfl rfl ?_
    refine m_getA (pc := 44) (j := 3) dX11_remove_44 flX11_17 rfl (by decide) ?_
    refine v_iload_n (pc := 47) (i := 1) dX11_remove_47 rfl rfl ?_
    refine m_iald (pc := 48) (j := 3) dX11_remove_48 hF (fun x5 hF => ?_)
    refine v_istore_n (pc := 49) (i := 2) [some (sr (some a0)), some (si a1), some (si x5), none, none, none, none] dX11_remove_49 rfl (by decide) rfl rfl ?_
    refine v_aload_n (pc := 50) (i := 0) dX11_remove_50 rfl rfl ?_
    refine v_iload_n (pc := 51) (i := 1) dX11_remove_51 rfl rfl ?_
    refine cpM_V (pc := 52) gI (as := [si a1]) (st := []) (N := mX11_placeOf) (k := 0) (n := 0) (k1 := 0) (n1 := 0) dX11_remove_52 lkX11_302 caX11_placeOf cvX11_placeOf rfl rfl (fun Q1 hq => tX11_placeOf a0 h a1 m4 Q1 hq) ⟨by decide, by decide⟩ (Nat.le_of_ble_eq_true rfl) rfl hF (fun x6 hF => ?_)
    show gV G mX11_remove 6 Q 55 [some (sr (some a0)), some (si a1), some (si x5), none, none, none, none] [si x6] (0) (0) (jn a0 h m4)
    refine v_istore_n (pc := 55) (i := 3) [some (sr (some a0)), some (si a1), some (si x5), some (si x6), none, none, none] dX11_remove_55 rfl (by decide) rfl rfl ?_
    refine v_aload_n (pc := 56) (i := 0) dX11_remove_56 rfl rfl ?_
    refine v_iload_n (pc := 57) (i := 1) dX11_remove_57 rfl rfl ?_
    refine cpM_V (pc := 58) gI (as := [si a1]) (st := []) (N := mX11_shows) (k := 0) (n := 0) (k1 := 0) (n1 := 0) dX11_remove_58 lkX11_224 caX11_shows cvX11_shows rfl rfl (fun Q1 hq => tX11_shows a0 h a1 m4 Q1 hq) ⟨by decide, by decide⟩ (Nat.le_of_ble_eq_true rfl) rfl hF (fun x7 hF => ?_)
    show gV G mX11_remove 6 Q 61 [some (sr (some a0)), some (si a1), some (si x5), some (si x6), none, none, none] [si x7] (0) (0) (jn a0 h m4)
    refine mg (X := fun q8 => gV G mX11_remove 6 Q 73 [some (sr (some a0)), some (si a1), some (si x5), some (si x6), none, none, none] [si q8] (0) (0) (jn a0 h m4)) hF (fun _ hj9 hF => ?_) (fun q8 hF => ?_)
    · refine v_if_eq (pc := 61) 72 dX11_remove_61 rfl (fun hc => ?_) (fun hc => ?_)
      · replace hF := (okB_if hF).1 hc
        refine v_iconst (pc := 72) (v := (-1 : Int32)) dX11_remove_72 rfl ?_
        exact v_lle [some (sr (some a0)), some (si a1), some (si x5), some (si x6), none, none, none] ⟨rfl, rfl, rfl, rfl, trivial⟩ (hj9 (-1 : Int32) (okB_some hF))
      replace hF := (okB_if hF).2 hc
      refine v_aload_n (pc := 64) (i := 0) dX11_remove_64 rfl rfl ?_
      refine v_iload_n (pc := 65) (i := 1) dX11_remove_65 rfl rfl ?_
      refine cpM_V (pc := 66) gI (as := [si a1]) (st := []) (N := mX11_regionOf) (k := 0) (n := 0) (k1 := 0) (n1 := 0) dX11_remove_66 lkX11_230 caX11_regionOf cvX11_regionOf rfl rfl (fun Q1 hq => tX11_regionOf a0 h a1 m4 Q1 hq) ⟨by decide, by decide⟩ (Nat.le_of_ble_eq_true rfl) rfl hF (fun x10 hF => ?_)
      show gV G mX11_remove 6 Q 69 [some (sr (some a0)), some (si a1), some (si x5), some (si x6), none, none, none] [si x10] (0) (0) (jn a0 h m4)
      refine v_goto (pc := 69) 73 dX11_remove_69 rfl ?_
      exact v_lle [some (sr (some a0)), some (si a1), some (si x5), some (si x6), none, none, none] ⟨rfl, rfl, rfl, rfl, trivial⟩ (hj9 x10 (okB_some hF))
    refine v_istore (pc := 73) (i := 4) [some (sr (some a0)), some (si a1), some (si x5), some (si x6), some (si q8), none, none] dX11_remove_73 (by decide) rfl rfl ?_
    refine v_iconst (pc := 75) (v := (0 : Int32)) dX11_remove_75 rfl ?_
    refine v_istore (pc := 76) (i := 5) [some (sr (some a0)), some (si a1), some (si x5), some (si x6), some (si q8), some (si (0 : Int32)), none] dX11_remove_76 (by decide) rfl rfl ?_
    refine v_aload_n (pc := 78) (i := 0) dX11_remove_78 rfl rfl ?_
    refine v_iload_n (pc := 79) (i := 1) dX11_remove_79 rfl rfl ?_
    refine chM_V (pc := 80) gU (as := [si a1]) (st := []) (N := mX11_makeGone) (k := 0) (n := 0) (k1 := 0) (n1 := 0) dX11_remove_80 lkX11_305 caX11_makeGone cvX11_makeGone rfl rfl (fun Q1 hq => tX11_makeGone a0 h a1 m4 Q1 hq) ⟨by decide, by decide⟩ (Nat.le_of_ble_eq_true rfl) rfl hF (fun x11 m12 hF => ?_)
    show gV G mX11_remove 6 Q 83 [some (sr (some a0)), some (si a1), some (si x5), some (si x6), some (si q8), some (si (0 : Int32)), none] [] (0) (0) (jn a0 h m12)
    refine v_iconst (pc := 83) (v := (0 : Int32)) dX11_remove_83 rfl ?_
    refine v_istore (pc := 84) (i := 6) [some (sr (some a0)), some (si a1), some (si x5), some (si x6), some (si q8), some (si (0 : Int32)), some (si (0 : Int32))] dX11_remove_84 (by decide) rfl rfl ?_
    refine mg (X := fun q13 => gV G mX11_remove 6 Q 138 [some (sr (some a0)), none, some (si x5), some (si x6), some (si q8), some (si q13.1), none] [] (0) (0) (jn a0 h q13.2)) hF (fun _ hj24 hF => v_lle [some (sr (some a0)), some (si a1), some (si x5), some (si x6), some (si q8), some (si (0 : Int32)), some (si (0 : Int32))] ⟨rfl, rfl, rfl, rfl, rfl, rfl, rfl, trivial⟩ (lX11_remove_86 a0 h a1 x5 x6 q8 hj24 FU ((0 : Int32), (0 : Int32), m12) hF)) (fun q13 hF => ?_)
    refine v_aload_n (pc := 138) (i := 0) dX11_remove_138 rfl rfl ?_
    refine m_getA (pc := 139) (j := 5) dX11_remove_139 flX11_23 rfl (by decide) ?_
    refine v_iload_n (pc := 142) (i := 2) dX11_remove_142 rfl rfl ?_
    refine v_dup2 (pc := 143) dX11_remove_143 rfl rfl ?_
    refine m_iald (pc := 144) (j := 5) dX11_remove_144 hF (fun x14 hF => ?_)
    refine v_iconst (pc := 145) (v := (1 : Int32)) dX11_remove_145 rfl ?_
    refine v_isub (pc := 146) dX11_remove_146 ?_
    refine m_iast (pc := 147) (j := 5) dX11_remove_147 hF (fun m15 hF => ?_)
    refine v_iload_n (pc := 148) (i := 3) dX11_remove_148 rfl rfl ?_
    refine v_istore (pc := 149) (i := 6) [some (sr (some a0)), none, some (si x5), some (si x6), some (si q8), some (si q13.1), some (si x6)] dX11_remove_149 (by decide) rfl rfl ?_
    refine mg (X := fun q16 => gV G mX11_remove 6 Q 194 [some (sr (some a0)), none, some (si x5), some (si x6), some (si q8), some (si q13.1), none] [] (0) (0) (jn a0 h q16)) hF (fun _ hj23 hF => v_lle [some (sr (some a0)), none, some (si x5), some (si x6), some (si q8), some (si q13.1), some (si x6)] ⟨rfl, rfl, rfl, rfl, rfl, rfl, trivial⟩ (lX11_remove_151 a0 h x5 x6 q8 q13.1 hj23 FU (x6, m15) hF)) (fun q16 hF => ?_)
    refine v_aload_n (pc := 194) (i := 0) dX11_remove_194 rfl rfl ?_
    refine v_iload (pc := 195) (i := 4) dX11_remove_195 rfl ?_
    refine chM_V (pc := 197) gU (as := [si q8]) (st := []) (N := mX11_tell) (k := 0) (n := 0) (k1 := 0) (n1 := 0) dX11_remove_197 lkX11_233 caX11_tell cvX11_tell rfl rfl (fun Q1 hq => tX11_tell a0 h q8 q16 Q1 hq) ⟨by decide, by decide⟩ (Nat.le_of_ble_eq_true rfl) rfl hF (fun x17 m18 hF => ?_)
    show gV G mX11_remove 6 Q 200 [some (sr (some a0)), none, some (si x5), some (si x6), some (si q8), some (si q13.1), none] [] (0) (0) (jn a0 h m18)
    refine v_aload_n (pc := 200) (i := 0) dX11_remove_200 rfl rfl ?_
    refine v_iload_n (pc := 201) (i := 2) dX11_remove_201 rfl rfl ?_
    refine v_iload_n (pc := 202) (i := 3) dX11_remove_202 rfl rfl ?_
    refine v_iload_n (pc := 203) (i := 3) dX11_remove_203 rfl rfl ?_
    refine v_iconst (pc := 204) (v := (1 : Int32)) dX11_remove_204 rfl ?_
    refine v_isub (pc := 205) dX11_remove_205 ?_
    refine chM_V (pc := 206) gU (as := [si x5, si x6, si (x6 - (1 : Int32))]) (st := []) (N := mX11_lose) (k := 0) (n := 0) (k1 := 0) (n1 := 0) dX11_remove_206 lkX11_311 caX11_lose cvX11_lose rfl rfl (fun Q1 hq => tX11_lose a0 h x5 x6 (x6 - (1 : Int32)) m18 Q1 hq) ⟨by decide, by decide⟩ (Nat.le_of_ble_eq_true rfl) rfl hF (fun x19 m20 hF => ?_)
    show gV G mX11_remove 6 Q 209 [some (sr (some a0)), none, some (si x5), some (si x6), some (si q8), some (si q13.1), none] [] (0) (0) (jn a0 h m20)
    refine v_aload_n (pc := 209) (i := 0) dX11_remove_209 rfl rfl ?_
    refine chM_V (pc := 210) gU (as := []) (st := []) (N := mX11_fitOffset) (k := 0) (n := 0) (k1 := 0) (n1 := 0) dX11_remove_210 lkX11_295 caX11_fitOffset cvX11_fitOffset rfl rfl (fun Q1 hq => tX11_fitOffset a0 h m20 Q1 hq) ⟨by decide, by decide⟩ (Nat.le_of_ble_eq_true rfl) rfl hF (fun x21 m22 hF => ?_)
    show gV G mX11_remove 6 Q 213 [some (sr (some a0)), none, some (si x5), some (si x6), some (si q8), some (si q13.1), none] [] (0) (0) (jn a0 h m22)
    refine v_iload (pc := 213) (i := 5) dX11_remove_213 rfl ?_
    exact v_iret (pc := 215) dX11_remove_215 rfl rfl (okr hF fun q => q)
  replace hF := (okB_if hF).2 hc
  refine v_iconst (pc := 41) (v := (0 : Int32)) dX11_remove_41 rfl ?_
  exact v_iret (pc := 42) dX11_remove_42 rfl rfl (okr hF fun q => q)
