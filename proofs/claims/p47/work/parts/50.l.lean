/-! ===== the law's methods over its arrays: their functions and rows ===== -/
theorem dL_presses_0 : decode cL_presses 0 = .ok (.iload 5, 2) := by decide +kernel
theorem dL_presses_2 : decode cL_presses 2 = .ok (.sipush 256, 3) := by decide +kernel
theorem dL_presses_5 : decode cL_presses 5 = .ok (.if_icmp .le 19, 3) := by decide +kernel
theorem dL_presses_8 : decode cL_presses 8 = .ok (.aload_n 0, 1) := by decide +kernel
theorem dL_presses_9 : decode cL_presses 9 = .ok (.aload_n 1, 1) := by decide +kernel
theorem dL_presses_10 : decode cL_presses 10 = .ok (.iload 4, 2) := by decide +kernel
theorem dL_presses_12 : decode cL_presses 12 = .ok (.iload 5, 2) := by decide +kernel
theorem dL_presses_14 : decode cL_presses 14 = .ok (.sipush 256, 3) := by decide +kernel
theorem dL_presses_17 : decode cL_presses 17 = .ok (.isub, 1) := by decide +kernel
theorem dL_presses_18 : decode cL_presses 18 = .ok (.invokestatic 93, 3) := by decide +kernel
theorem dL_presses_21 : decode cL_presses 21 = .ok (.goto 111, 3) := by decide +kernel
theorem dL_presses_24 : decode cL_presses 24 = .ok (.aload_n 0, 1) := by decide +kernel
theorem dL_presses_25 : decode cL_presses 25 = .ok (.iconst 4, 1) := by decide +kernel
theorem dL_presses_26 : decode cL_presses 26 = .ok (.iaload, 1) := by decide +kernel
theorem dL_presses_27 : decode cL_presses 27 = .ok (.iconst 1, 1) := by decide +kernel
theorem dL_presses_28 : decode cL_presses 28 = .ok (.if_icmp .ne 14, 3) := by decide +kernel
theorem dL_presses_31 : decode cL_presses 31 = .ok (.aload_n 0, 1) := by decide +kernel
theorem dL_presses_32 : decode cL_presses 32 = .ok (.aload_n 2, 1) := by decide +kernel
theorem dL_presses_33 : decode cL_presses 33 = .ok (.aload_n 3, 1) := by decide +kernel
theorem dL_presses_34 : decode cL_presses 34 = .ok (.iload 5, 2) := by decide +kernel
theorem dL_presses_36 : decode cL_presses 36 = .ok (.invokestatic 97, 3) := by decide +kernel
theorem dL_presses_39 : decode cL_presses 39 = .ok (.goto 93, 3) := by decide +kernel
theorem dL_presses_42 : decode cL_presses 42 = .ok (.iload 5, 2) := by decide +kernel
theorem dL_presses_44 : decode cL_presses 44 = .ok (.bipush 27, 2) := by decide +kernel
theorem dL_presses_46 : decode cL_presses 46 = .ok (.if_icmp .ne 7, 3) := by decide +kernel
theorem dL_presses_49 : decode cL_presses 49 = .ok (.iconst 0, 1) := by decide +kernel
theorem dL_presses_50 : decode cL_presses 50 = .ok (.goto 59, 3) := by decide +kernel
theorem dL_presses_53 : decode cL_presses 53 = .ok (.iload 5, 2) := by decide +kernel
theorem dL_presses_55 : decode cL_presses 55 = .ok (.iconst 3, 1) := by decide +kernel
theorem dL_presses_56 : decode cL_presses 56 = .ok (.if_icmp .ne 7, 3) := by decide +kernel
theorem dL_presses_59 : decode cL_presses 59 = .ok (.iconst 2, 1) := by decide +kernel
theorem dL_presses_60 : decode cL_presses 60 = .ok (.goto 49, 3) := by decide +kernel
theorem dL_presses_63 : decode cL_presses 63 = .ok (.iload 5, 2) := by decide +kernel
theorem dL_presses_65 : decode cL_presses 65 = .ok (.bipush 9, 2) := by decide +kernel
theorem dL_presses_67 : decode cL_presses 67 = .ok (.if_icmp .ne 7, 3) := by decide +kernel
theorem dL_presses_70 : decode cL_presses 70 = .ok (.iconst 3, 1) := by decide +kernel
theorem dL_presses_71 : decode cL_presses 71 = .ok (.goto 38, 3) := by decide +kernel
theorem dL_presses_74 : decode cL_presses 74 = .ok (.iload 5, 2) := by decide +kernel
theorem dL_presses_76 : decode cL_presses 76 = .ok (.bipush 17, 2) := by decide +kernel
theorem dL_presses_78 : decode cL_presses 78 = .ok (.if_icmp .ne 7, 3) := by decide +kernel
theorem dL_presses_81 : decode cL_presses 81 = .ok (.iconst 4, 1) := by decide +kernel
theorem dL_presses_82 : decode cL_presses 82 = .ok (.goto 27, 3) := by decide +kernel
theorem dL_presses_85 : decode cL_presses 85 = .ok (.iload 5, 2) := by decide +kernel
theorem dL_presses_87 : decode cL_presses 87 = .ok (.bipush 30, 2) := by decide +kernel
theorem dL_presses_89 : decode cL_presses 89 = .ok (.if_icmp .ne 7, 3) := by decide +kernel
theorem dL_presses_92 : decode cL_presses 92 = .ok (.iconst 5, 1) := by decide +kernel
theorem dL_presses_93 : decode cL_presses 93 = .ok (.goto 16, 3) := by decide +kernel
theorem dL_presses_96 : decode cL_presses 96 = .ok (.iload 5, 2) := by decide +kernel
theorem dL_presses_98 : decode cL_presses 98 = .ok (.bipush 23, 2) := by decide +kernel
theorem dL_presses_100 : decode cL_presses 100 = .ok (.if_icmp .ne 8, 3) := by decide +kernel
theorem dL_presses_103 : decode cL_presses 103 = .ok (.bipush 6, 2) := by decide +kernel
theorem dL_presses_105 : decode cL_presses 105 = .ok (.goto 4, 3) := by decide +kernel
theorem dL_presses_108 : decode cL_presses 108 = .ok (.iconst (-1), 1) := by decide +kernel
theorem dL_presses_109 : decode cL_presses 109 = .ok (.istore 6, 2) := by decide +kernel
theorem dL_presses_111 : decode cL_presses 111 = .ok (.aload_n 0, 1) := by decide +kernel
theorem dL_presses_112 : decode cL_presses 112 = .ok (.iload 6, 2) := by decide +kernel
theorem dL_presses_114 : decode cL_presses 114 = .ok (.ifCond .ge 7, 3) := by decide +kernel
theorem dL_presses_117 : decode cL_presses 117 = .ok (.iconst (-1), 1) := by decide +kernel
theorem dL_presses_118 : decode cL_presses 118 = .ok (.goto 11, 3) := by decide +kernel
theorem dL_presses_121 : decode cL_presses 121 = .ok (.aload_n 0, 1) := by decide +kernel
theorem dL_presses_122 : decode cL_presses 122 = .ok (.aload_n 1, 1) := by decide +kernel
theorem dL_presses_123 : decode cL_presses 123 = .ok (.iload 6, 2) := by decide +kernel
theorem dL_presses_125 : decode cL_presses 125 = .ok (.iconst 0, 1) := by decide +kernel
theorem dL_presses_126 : decode cL_presses 126 = .ok (.invokestatic 87, 3) := by decide +kernel
theorem dL_presses_129 : decode cL_presses 129 = .ok (.invokestatic 80, 3) := by decide +kernel
theorem dL_presses_132 : decode cL_presses 132 = .ok (.return_, 1) := by decide +kernel
theorem dL_loses_0 : decode cL_loses 0 = .ok (.aload_n 0, 1) := by decide +kernel
theorem dL_loses_1 : decode cL_loses 1 = .ok (.iconst 2, 1) := by decide +kernel
theorem dL_loses_2 : decode cL_loses 2 = .ok (.iaload, 1) := by decide +kernel
theorem dL_loses_3 : decode cL_loses 3 = .ok (.ifCond .le 19, 3) := by decide +kernel
theorem dL_loses_6 : decode cL_loses 6 = .ok (.aload_n 1, 1) := by decide +kernel
theorem dL_loses_7 : decode cL_loses 7 = .ok (.aload_n 0, 1) := by decide +kernel
theorem dL_loses_8 : decode cL_loses 8 = .ok (.iconst 2, 1) := by decide +kernel
theorem dL_loses_9 : decode cL_loses 9 = .ok (.iaload, 1) := by decide +kernel
theorem dL_loses_10 : decode cL_loses 10 = .ok (.iconst 1, 1) := by decide +kernel
theorem dL_loses_11 : decode cL_loses 11 = .ok (.isub, 1) := by decide +kernel
theorem dL_loses_12 : decode cL_loses 12 = .ok (.invokestatic 101, 3) := by decide +kernel
theorem dL_loses_15 : decode cL_loses 15 = .ok (.ifCond .ne 7, 3) := by decide +kernel
theorem dL_loses_18 : decode cL_loses 18 = .ok (.iconst 1, 1) := by decide +kernel
theorem dL_loses_19 : decode cL_loses 19 = .ok (.goto 4, 3) := by decide +kernel
theorem dL_loses_22 : decode cL_loses 22 = .ok (.iconst 0, 1) := by decide +kernel
theorem dL_loses_23 : decode cL_loses 23 = .ok (.istore 4, 2) := by decide +kernel
theorem dL_loses_25 : decode cL_loses 25 = .ok (.aload_n 0, 1) := by decide +kernel
theorem dL_loses_26 : decode cL_loses 26 = .ok (.iconst 4, 1) := by decide +kernel
theorem dL_loses_27 : decode cL_loses 27 = .ok (.iload 4, 2) := by decide +kernel
theorem dL_loses_29 : decode cL_loses 29 = .ok (.ifCond .eq 7, 3) := by decide +kernel
theorem dL_loses_32 : decode cL_loses 32 = .ok (.iconst 0, 1) := by decide +kernel
theorem dL_loses_33 : decode cL_loses 33 = .ok (.goto 6, 3) := by decide +kernel
theorem dL_loses_36 : decode cL_loses 36 = .ok (.aload_n 0, 1) := by decide +kernel
theorem dL_loses_37 : decode cL_loses 37 = .ok (.iconst 4, 1) := by decide +kernel
theorem dL_loses_38 : decode cL_loses 38 = .ok (.iaload, 1) := by decide +kernel
theorem dL_loses_39 : decode cL_loses 39 = .ok (.iastore, 1) := by decide +kernel
theorem dL_loses_40 : decode cL_loses 40 = .ok (.aload_n 0, 1) := by decide +kernel
theorem dL_loses_41 : decode cL_loses 41 = .ok (.iconst 2, 1) := by decide +kernel
theorem dL_loses_42 : decode cL_loses 42 = .ok (.iload 4, 2) := by decide +kernel
theorem dL_loses_44 : decode cL_loses 44 = .ok (.ifCond .eq 7, 3) := by decide +kernel
theorem dL_loses_47 : decode cL_loses 47 = .ok (.iconst 0, 1) := by decide +kernel
theorem dL_loses_48 : decode cL_loses 48 = .ok (.goto 6, 3) := by decide +kernel
theorem dL_loses_51 : decode cL_loses 51 = .ok (.aload_n 0, 1) := by decide +kernel
theorem dL_loses_52 : decode cL_loses 52 = .ok (.iconst 2, 1) := by decide +kernel
theorem dL_loses_53 : decode cL_loses 53 = .ok (.iaload, 1) := by decide +kernel
theorem dL_loses_54 : decode cL_loses 54 = .ok (.iastore, 1) := by decide +kernel
theorem dL_loses_55 : decode cL_loses 55 = .ok (.aload_n 1, 1) := by decide +kernel
theorem dL_loses_56 : decode cL_loses 56 = .ok (.aload_n 0, 1) := by decide +kernel
theorem dL_loses_57 : decode cL_loses 57 = .ok (.iconst 1, 1) := by decide +kernel
theorem dL_loses_58 : decode cL_loses 58 = .ok (.iaload, 1) := by decide +kernel
theorem dL_loses_59 : decode cL_loses 59 = .ok (.invokestatic 101, 3) := by decide +kernel
theorem dL_loses_62 : decode cL_loses 62 = .ok (.ifCond .ne 77, 3) := by decide +kernel
theorem dL_loses_65 : decode cL_loses 65 = .ok (.aload_n 0, 1) := by decide +kernel
theorem dL_loses_66 : decode cL_loses 66 = .ok (.aload_n 1, 1) := by decide +kernel
theorem dL_loses_67 : decode cL_loses 67 = .ok (.iload_n 2, 1) := by decide +kernel
theorem dL_loses_68 : decode cL_loses 68 = .ok (.iload_n 3, 1) := by decide +kernel
theorem dL_loses_69 : decode cL_loses 69 = .ok (.iconst 0, 1) := by decide +kernel
theorem dL_loses_70 : decode cL_loses 70 = .ok (.invokestatic 16, 3) := by decide +kernel
theorem dL_loses_73 : decode cL_loses 73 = .ok (.istore 5, 2) := by decide +kernel
theorem dL_loses_75 : decode cL_loses 75 = .ok (.iload_n 2, 1) := by decide +kernel
theorem dL_loses_76 : decode cL_loses 76 = .ok (.istore 6, 2) := by decide +kernel
theorem dL_loses_78 : decode cL_loses 78 = .ok (.aload_n 0, 1) := by decide +kernel
theorem dL_loses_79 : decode cL_loses 79 = .ok (.aload_n 1, 1) := by decide +kernel
theorem dL_loses_80 : decode cL_loses 80 = .ok (.iload_n 2, 1) := by decide +kernel
theorem dL_loses_81 : decode cL_loses 81 = .ok (.iconst 0, 1) := by decide +kernel
theorem dL_loses_82 : decode cL_loses 82 = .ok (.iconst 0, 1) := by decide +kernel
theorem dL_loses_83 : decode cL_loses 83 = .ok (.invokestatic 16, 3) := by decide +kernel
theorem dL_loses_86 : decode cL_loses 86 = .ok (.istore 7, 2) := by decide +kernel
theorem dL_loses_88 : decode cL_loses 88 = .ok (.iload 7, 2) := by decide +kernel
theorem dL_loses_90 : decode cL_loses 90 = .ok (.ifCond .lt 30, 3) := by decide +kernel
theorem dL_loses_93 : decode cL_loses 93 = .ok (.iload 7, 2) := by decide +kernel
theorem dL_loses_95 : decode cL_loses 95 = .ok (.istore 6, 2) := by decide +kernel
theorem dL_loses_97 : decode cL_loses 97 = .ok (.aload_n 0, 1) := by decide +kernel
theorem dL_loses_98 : decode cL_loses 98 = .ok (.aload_n 1, 1) := by decide +kernel
theorem dL_loses_99 : decode cL_loses 99 = .ok (.iload_n 2, 1) := by decide +kernel
theorem dL_loses_100 : decode cL_loses 100 = .ok (.aload_n 1, 1) := by decide +kernel
theorem dL_loses_101 : decode cL_loses 101 = .ok (.bipush 6, 2) := by decide +kernel
theorem dL_loses_103 : decode cL_loses 103 = .ok (.iload 7, 2) := by decide +kernel
theorem dL_loses_105 : decode cL_loses 105 = .ok (.imul, 1) := by decide +kernel
theorem dL_loses_106 : decode cL_loses 106 = .ok (.iconst 2, 1) := by decide +kernel
theorem dL_loses_107 : decode cL_loses 107 = .ok (.iadd, 1) := by decide +kernel
theorem dL_loses_108 : decode cL_loses 108 = .ok (.iaload, 1) := by decide +kernel
theorem dL_loses_109 : decode cL_loses 109 = .ok (.iconst 1, 1) := by decide +kernel
theorem dL_loses_110 : decode cL_loses 110 = .ok (.iadd, 1) := by decide +kernel
theorem dL_loses_111 : decode cL_loses 111 = .ok (.iconst 0, 1) := by decide +kernel
theorem dL_loses_112 : decode cL_loses 112 = .ok (.invokestatic 16, 3) := by decide +kernel
theorem dL_loses_115 : decode cL_loses 115 = .ok (.istore 7, 2) := by decide +kernel
theorem dL_loses_117 : decode cL_loses 117 = .ok (.goto (-29), 3) := by decide +kernel
theorem dL_loses_120 : decode cL_loses 120 = .ok (.aload_n 0, 1) := by decide +kernel
theorem dL_loses_121 : decode cL_loses 121 = .ok (.iconst 1, 1) := by decide +kernel
theorem dL_loses_122 : decode cL_loses 122 = .ok (.iload 5, 2) := by decide +kernel
theorem dL_loses_124 : decode cL_loses 124 = .ok (.ifCond .ge 8, 3) := by decide +kernel
theorem dL_loses_127 : decode cL_loses 127 = .ok (.iload 6, 2) := by decide +kernel
theorem dL_loses_129 : decode cL_loses 129 = .ok (.goto 5, 3) := by decide +kernel
theorem dL_loses_132 : decode cL_loses 132 = .ok (.iload 5, 2) := by decide +kernel
theorem dL_loses_134 : decode cL_loses 134 = .ok (.iastore, 1) := by decide +kernel
theorem dL_loses_135 : decode cL_loses 135 = .ok (.aload_n 0, 1) := by decide +kernel
theorem dL_loses_136 : decode cL_loses 136 = .ok (.iconst 3, 1) := by decide +kernel
theorem dL_loses_137 : decode cL_loses 137 = .ok (.iconst 0, 1) := by decide +kernel
theorem dL_loses_138 : decode cL_loses 138 = .ok (.iastore, 1) := by decide +kernel
theorem dL_loses_139 : decode cL_loses 139 = .ok (.return_, 1) := by decide +kernel
theorem dL_code_0 : decode cL_code 0 = .ok (.iload_n 0, 1) := by decide +kernel
theorem dL_code_1 : decode cL_code 1 = .ok (.bipush 14, 2) := by decide +kernel
theorem dL_code_3 : decode cL_code 3 = .ok (.if_icmp .ge 13, 3) := by decide +kernel
theorem dL_code_6 : decode cL_code 6 = .ok (.bipush 65, 2) := by decide +kernel
theorem dL_code_8 : decode cL_code 8 = .ok (.iload_n 0, 1) := by decide +kernel
theorem dL_code_9 : decode cL_code 9 = .ok (.bipush 7, 2) := by decide +kernel
theorem dL_code_11 : decode cL_code 11 = .ok (.irem, 1) := by decide +kernel
theorem dL_code_12 : decode cL_code 12 = .ok (.iadd, 1) := by decide +kernel
theorem dL_code_13 : decode cL_code 13 = .ok (.goto 64, 3) := by decide +kernel
theorem dL_code_16 : decode cL_code 16 = .ok (.iload_n 0, 1) := by decide +kernel
theorem dL_code_17 : decode cL_code 17 = .ok (.bipush 34, 2) := by decide +kernel
theorem dL_code_19 : decode cL_code 19 = .ok (.if_icmp .ge 13, 3) := by decide +kernel
theorem dL_code_22 : decode cL_code 22 = .ok (.bipush 97, 2) := by decide +kernel
theorem dL_code_24 : decode cL_code 24 = .ok (.iload_n 0, 1) := by decide +kernel
theorem dL_code_25 : decode cL_code 25 = .ok (.bipush 26, 2) := by decide +kernel
theorem dL_code_27 : decode cL_code 27 = .ok (.irem, 1) := by decide +kernel
theorem dL_code_28 : decode cL_code 28 = .ok (.iadd, 1) := by decide +kernel
theorem dL_code_29 : decode cL_code 29 = .ok (.goto 48, 3) := by decide +kernel
theorem dL_code_32 : decode cL_code 32 = .ok (.iload_n 0, 1) := by decide +kernel
theorem dL_code_33 : decode cL_code 33 = .ok (.bipush 48, 2) := by decide +kernel
theorem dL_code_35 : decode cL_code 35 = .ok (.if_icmp .ge 13, 3) := by decide +kernel
theorem dL_code_38 : decode cL_code 38 = .ok (.bipush 48, 2) := by decide +kernel
theorem dL_code_40 : decode cL_code 40 = .ok (.iload_n 0, 1) := by decide +kernel
theorem dL_code_41 : decode cL_code 41 = .ok (.bipush 10, 2) := by decide +kernel
theorem dL_code_43 : decode cL_code 43 = .ok (.irem, 1) := by decide +kernel
theorem dL_code_44 : decode cL_code 44 = .ok (.iadd, 1) := by decide +kernel
theorem dL_code_45 : decode cL_code 45 = .ok (.goto 32, 3) := by decide +kernel
theorem dL_code_48 : decode cL_code 48 = .ok (.iload_n 0, 1) := by decide +kernel
theorem dL_code_49 : decode cL_code 49 = .ok (.bipush 62, 2) := by decide +kernel
theorem dL_code_51 : decode cL_code 51 = .ok (.if_icmp .ge 13, 3) := by decide +kernel
theorem dL_code_54 : decode cL_code 54 = .ok (.bipush 32, 2) := by decide +kernel
theorem dL_code_56 : decode cL_code 56 = .ok (.iload_n 0, 1) := by decide +kernel
theorem dL_code_57 : decode cL_code 57 = .ok (.bipush 15, 2) := by decide +kernel
theorem dL_code_59 : decode cL_code 59 = .ok (.irem, 1) := by decide +kernel
theorem dL_code_60 : decode cL_code 60 = .ok (.iadd, 1) := by decide +kernel
theorem dL_code_61 : decode cL_code 61 = .ok (.goto 16, 3) := by decide +kernel
theorem dL_code_64 : decode cL_code 64 = .ok (.iload_n 0, 1) := by decide +kernel
theorem dL_code_65 : decode cL_code 65 = .ok (.bipush 62, 2) := by decide +kernel
theorem dL_code_67 : decode cL_code 67 = .ok (.if_icmp .ne 8, 3) := by decide +kernel
theorem dL_code_70 : decode cL_code 70 = .ok (.ldc 211, 2) := by decide +kernel
theorem dL_code_72 : decode cL_code 72 = .ok (.goto 5, 3) := by decide +kernel
theorem dL_code_75 : decode cL_code 75 = .ok (.ldc 212, 2) := by decide +kernel
theorem dL_code_77 : decode cL_code 77 = .ok (.ireturn, 1) := by decide +kernel
abbrev mL_presses : gM := (yL_presses, cL_presses, 7, (Option.none : Option FieldType), [])
theorem caL_presses : cal mL_presses 6 := ⟨xw 911 (by decide +kernel) rfl, xw 28 (by decide +kernel) rfl, by decide, by decide +kernel⟩
theorem csL_presses : Cond.static yL_presses ∈ XW := xw 910 (by decide +kernel) rfl
abbrev mL_loses : gM := (yL_loses, cL_loses, 8, (Option.none : Option FieldType), [])
theorem caL_loses : cal mL_loses 4 := ⟨xw 945 (by decide +kernel) rfl, xw 28 (by decide +kernel) rfl, by decide, by decide +kernel⟩
theorem csL_loses : Cond.static yL_loses ∈ XW := xw 944 (by decide +kernel) rfl
abbrev mL_code : gM := (yL_code, cL_code, 1, (Option.some FieldType.int), [])
theorem caL_code : cal mL_code 1 := ⟨xw 1247 (by decide +kernel) rfl, xw 28 (by decide +kernel) rfl, by decide, by decide +kernel⟩
theorem csL_code : Cond.static yL_code ∈ XW := xw 1246 (by decide +kernel) rfl
theorem lkL_97 : Cond.methodLink RL 97 yL_types ∈ XW := xw 939 (by decide +kernel) rfl
theorem lkL_93 : Cond.methodLink RL 93 yL_commands ∈ XW := xw 912 (by decide +kernel) rfl
theorem lkL_101 : Cond.methodLink RL 101 yL_isShown ∈ XW := xw 946 (by decide +kernel) rfl
theorem ctL_212 : Cond.constant RL 212 (119295 : Int32) ∈ XW := xw 1249 (by decide +kernel) rfl
theorem ctL_211 : Cond.constant RL 211 (119040 : Int32) ∈ XW := xw 1248 (by decide +kernel) rfl
/-! BrailleDeskLaw.presses -/
theorem tL_presses {G : gG} (a0 : (Option Nat)) (a1 : (Option Nat)) (a2 : (Option Nat)) (a3 : (Option Nat)) (a4 : Int32) (a5 : Int32) (h : hp) (Q : hQ) (hF : okB (fL_presses a0 a1 a2 a3 a4 a5 h) (pH gU Q)) : gS G mL_presses 5 0 0 [sr a0, sr a1, sr a2, sr a3, si a4, si a5] h Q := by
  delta fL_presses at hF
  refine gS_at [some (sr a0), some (sr a1), some (sr a2), some (sr a3), some (si a4), some (si a5), none] pl_L rfl (Nat.le_of_ble_eq_true rfl) rfl ?_
  refine v_iload (pc := 0) (i := 5) dL_presses_0 rfl ?_
  refine v_sipush (pc := 2) (v := (256 : Int32)) dL_presses_2 rfl ?_
  refine v_icmp_le (pc := 5) 24 dL_presses_5 rfl (fun hc => ?_) (fun hc => ?_)
  · replace hF := (okB_if hF).1 hc
    refine v_aload_n (pc := 24) (i := 0) dL_presses_24 rfl rfl ?_
    refine v_iconst (pc := 25) (v := (4 : Int32)) dL_presses_25 rfl ?_
    refine s_iald (pc := 26) dL_presses_26 hF (fun x1 hF => ?_)
    refine v_iconst (pc := 27) (v := (1 : Int32)) dL_presses_27 rfl ?_
    refine v_icmp_ne (pc := 28) 42 dL_presses_28 rfl (fun hc => ?_) (fun hc => ?_)
    · replace hF := (okB_if hF).2 hc
      refine v_iload (pc := 42) (i := 5) dL_presses_42 rfl ?_
      refine v_bipush (pc := 44) (v := (27 : Int32)) dL_presses_44 rfl ?_
      refine mg (X := fun q2 => gV G mL_presses 5 Q 109 [some (sr a0), some (sr a1), none, none, none, none, none] [si q2] (0) (0) h) hF (fun _ hj3 hF => ?_) (fun q2 hF => ?_)
      · refine v_icmp_ne (pc := 46) 53 dL_presses_46 rfl (fun hc => ?_) (fun hc => ?_)
        · replace hF := (okB_if hF).2 hc
          refine v_iload (pc := 53) (i := 5) dL_presses_53 rfl ?_
          refine v_iconst (pc := 55) (v := (3 : Int32)) dL_presses_55 rfl ?_
          refine v_icmp_ne (pc := 56) 63 dL_presses_56 rfl (fun hc => ?_) (fun hc => ?_)
          · replace hF := (okB_if hF).2 hc
            refine v_iload (pc := 63) (i := 5) dL_presses_63 rfl ?_
            refine v_bipush (pc := 65) (v := (9 : Int32)) dL_presses_65 rfl ?_
            refine v_icmp_ne (pc := 67) 74 dL_presses_67 rfl (fun hc => ?_) (fun hc => ?_)
            · replace hF := (okB_if hF).2 hc
              refine v_iload (pc := 74) (i := 5) dL_presses_74 rfl ?_
              refine v_bipush (pc := 76) (v := (17 : Int32)) dL_presses_76 rfl ?_
              refine v_icmp_ne (pc := 78) 85 dL_presses_78 rfl (fun hc => ?_) (fun hc => ?_)
              · replace hF := (okB_if hF).2 hc
                refine v_iload (pc := 85) (i := 5) dL_presses_85 rfl ?_
                refine v_bipush (pc := 87) (v := (30 : Int32)) dL_presses_87 rfl ?_
                refine v_icmp_ne (pc := 89) 96 dL_presses_89 rfl (fun hc => ?_) (fun hc => ?_)
                · replace hF := (okB_if hF).2 hc
                  refine v_iload (pc := 96) (i := 5) dL_presses_96 rfl ?_
                  refine v_bipush (pc := 98) (v := (23 : Int32)) dL_presses_98 rfl ?_
                  refine v_icmp_ne (pc := 100) 108 dL_presses_100 rfl (fun hc => ?_) (fun hc => ?_)
                  · replace hF := (okB_if hF).2 hc
                    refine v_iconst (pc := 108) (v := (-1 : Int32)) dL_presses_108 rfl ?_
                    exact v_lle [some (sr a0), some (sr a1), none, none, none, none, none] ⟨rfl, rfl, trivial⟩ (hj3 (-1 : Int32) (okB_some hF))
                  replace hF := (okB_if hF).1 hc
                  refine v_bipush (pc := 103) (v := (6 : Int32)) dL_presses_103 rfl ?_
                  refine v_goto (pc := 105) 109 dL_presses_105 rfl ?_
                  exact v_lle [some (sr a0), some (sr a1), none, none, none, none, none] ⟨rfl, rfl, trivial⟩ (hj3 (6 : Int32) (okB_some hF))
                replace hF := (okB_if hF).1 hc
                refine v_iconst (pc := 92) (v := (5 : Int32)) dL_presses_92 rfl ?_
                refine v_goto (pc := 93) 109 dL_presses_93 rfl ?_
                exact v_lle [some (sr a0), some (sr a1), none, none, none, none, none] ⟨rfl, rfl, trivial⟩ (hj3 (5 : Int32) (okB_some hF))
              replace hF := (okB_if hF).1 hc
              refine v_iconst (pc := 81) (v := (4 : Int32)) dL_presses_81 rfl ?_
              refine v_goto (pc := 82) 109 dL_presses_82 rfl ?_
              exact v_lle [some (sr a0), some (sr a1), none, none, none, none, none] ⟨rfl, rfl, trivial⟩ (hj3 (4 : Int32) (okB_some hF))
            replace hF := (okB_if hF).1 hc
            refine v_iconst (pc := 70) (v := (3 : Int32)) dL_presses_70 rfl ?_
            refine v_goto (pc := 71) 109 dL_presses_71 rfl ?_
            exact v_lle [some (sr a0), some (sr a1), none, none, none, none, none] ⟨rfl, rfl, trivial⟩ (hj3 (3 : Int32) (okB_some hF))
          replace hF := (okB_if hF).1 hc
          refine v_iconst (pc := 59) (v := (2 : Int32)) dL_presses_59 rfl ?_
          refine v_goto (pc := 60) 109 dL_presses_60 rfl ?_
          exact v_lle [some (sr a0), some (sr a1), none, none, none, none, none] ⟨rfl, rfl, trivial⟩ (hj3 (2 : Int32) (okB_some hF))
        replace hF := (okB_if hF).1 hc
        refine v_iconst (pc := 49) (v := (0 : Int32)) dL_presses_49 rfl ?_
        refine v_goto (pc := 50) 109 dL_presses_50 rfl ?_
        exact v_lle [some (sr a0), some (sr a1), none, none, none, none, none] ⟨rfl, rfl, trivial⟩ (hj3 (0 : Int32) (okB_some hF))
      refine v_istore (pc := 109) (i := 6) [some (sr a0), some (sr a1), none, none, none, none, some (si q2)] dL_presses_109 (by decide) rfl rfl ?_
      refine v_aload_n (pc := 111) (i := 0) dL_presses_111 rfl rfl ?_
      refine v_iload (pc := 112) (i := 6) dL_presses_112 rfl ?_
      refine v_if_ge (pc := 114) 121 dL_presses_114 rfl (fun hc => ?_) (fun hc => ?_)
      · replace hF := (okB_if hF).1 hc
        refine v_aload_n (pc := 121) (i := 0) dL_presses_121 rfl rfl ?_
        refine v_aload_n (pc := 122) (i := 1) dL_presses_122 rfl rfl ?_
        refine v_iload (pc := 123) (i := 6) dL_presses_123 rfl ?_
        refine v_iconst (pc := 125) (v := (0 : Int32)) dL_presses_125 rfl ?_
        refine cp_S (pc := 126) gI (as := [sr a0, sr a1, si q2, si (0 : Int32)]) (st := [sr a0]) (N := mL_seeks) (k := 0) (n := 0) (k1 := 0) (n1 := 0) dL_presses_126 lkL_87 caL_seeks csL_seeks rfl (fun Q1 hq => tL_seeks a0 a1 q2 (0 : Int32) h Q1 hq) ⟨by decide, by decide⟩ (Nat.le_of_ble_eq_true rfl) rfl hF (fun x4 hF => ?_)
        show gV G mL_presses 5 Q 129 [some (sr a0), some (sr a1), none, none, none, none, some (si q2)] [si x4, sr a0] (0) (0) h
        refine ch_S (pc := 129) gU (as := [sr a0, si x4]) (st := []) (N := mL_goes) (k := 0) (n := 0) (k1 := 0) (n1 := 0) dL_presses_129 lkL_80 caL_goes csL_goes rfl (fun Q1 hq => tL_goes a0 x4 h Q1 hq) ⟨by decide, by decide⟩ (Nat.le_of_ble_eq_true rfl) rfl hF (fun x5 h6 hF => ?_)
        show gV G mL_presses 5 Q 132 [some (sr a0), some (sr a1), none, none, none, none, some (si q2)] [] (0) (0) h6
        exact v_ret (pc := 132) dL_presses_132 rfl (okr hF fun q => q)
      replace hF := (okB_if hF).2 hc
      refine v_iconst (pc := 117) (v := (-1 : Int32)) dL_presses_117 rfl ?_
      refine v_goto (pc := 118) 129 dL_presses_118 rfl ?_
      refine ch_S (pc := 129) gU (as := [sr a0, si (-1 : Int32)]) (st := []) (N := mL_goes) (k := 0) (n := 0) (k1 := 0) (n1 := 0) dL_presses_129 lkL_80 caL_goes csL_goes rfl (fun Q1 hq => tL_goes a0 (-1 : Int32) h Q1 hq) ⟨by decide, by decide⟩ (Nat.le_of_ble_eq_true rfl) rfl hF (fun x7 h8 hF => ?_)
      show gV G mL_presses 5 Q 132 [some (sr a0), some (sr a1), none, none, none, none, some (si q2)] [] (0) (0) h8
      exact v_ret (pc := 132) dL_presses_132 rfl (okr hF fun q => q)
    replace hF := (okB_if hF).1 hc
    refine v_aload_n (pc := 31) (i := 0) dL_presses_31 rfl rfl ?_
    refine v_aload_n (pc := 32) (i := 2) dL_presses_32 rfl rfl ?_
    refine v_aload_n (pc := 33) (i := 3) dL_presses_33 rfl rfl ?_
    refine v_iload (pc := 34) (i := 5) dL_presses_34 rfl ?_
    refine ch_S (pc := 36) gU (as := [sr a0, sr a2, sr a3, si a5]) (st := []) (N := mL_types) (k := 0) (n := 0) (k1 := 0) (n1 := 0) dL_presses_36 lkL_97 caL_types csL_types rfl (fun Q1 hq => tL_types a0 a2 a3 a5 h Q1 hq) ⟨by decide, by decide⟩ (Nat.le_of_ble_eq_true rfl) rfl hF (fun x9 h10 hF => ?_)
    show gV G mL_presses 5 Q 39 [some (sr a0), some (sr a1), some (sr a2), some (sr a3), some (si a4), some (si a5), none] [] (0) (0) h10
    refine v_goto (pc := 39) 132 dL_presses_39 rfl ?_
    exact v_ret (pc := 132) dL_presses_132 rfl (okr hF fun q => q)
  replace hF := (okB_if hF).2 hc
  refine v_aload_n (pc := 8) (i := 0) dL_presses_8 rfl rfl ?_
  refine v_aload_n (pc := 9) (i := 1) dL_presses_9 rfl rfl ?_
  refine v_iload (pc := 10) (i := 4) dL_presses_10 rfl ?_
  refine v_iload (pc := 12) (i := 5) dL_presses_12 rfl ?_
  refine v_sipush (pc := 14) (v := (256 : Int32)) dL_presses_14 rfl ?_
  refine v_isub (pc := 17) dL_presses_17 ?_
  refine ch_S (pc := 18) gU (as := [sr a0, sr a1, si a4, si (a5 - (256 : Int32))]) (st := []) (N := mL_commands) (k := 0) (n := 0) (k1 := 0) (n1 := 0) dL_presses_18 lkL_93 caL_commands csL_commands rfl (fun Q1 hq => tL_commands a0 a1 a4 (a5 - (256 : Int32)) h Q1 hq) ⟨by decide, by decide⟩ (Nat.le_of_ble_eq_true rfl) rfl hF (fun x11 h12 hF => ?_)
  show gV G mL_presses 5 Q 21 [some (sr a0), some (sr a1), some (sr a2), some (sr a3), some (si a4), some (si a5), none] [] (0) (0) h12
  refine v_goto (pc := 21) 132 dL_presses_21 rfl ?_
  exact v_ret (pc := 132) dL_presses_132 rfl (okr hF fun q => q)
/-! BrailleDeskLaw.loses -/
theorem lL_loses_88 {G : gG} {Q : hQ} {P : Int32 → Prop} {k n : Nat} (c0 : (Option Nat)) (c1 : (Option Nat)) (c2 : Int32) (c5 : Int32) (h : hp) (hJ : ∀ q : Int32, P q → gV G mL_loses 2 Q 120 [some (sr c0), none, none, none, none, some (si c5), some (si q), none] [] (k) (n) h) : ∀ (fu : Nat) (a : (Int32 × Int32)), okB (itr (fL_loses_B88 c0 c1 c2 c5 h) fu a) P → gV G mL_loses 2 Q 88 [some (sr c0), some (sr c1), some (si c2), none, none, some (si c5), some (si a.1), some (si a.2)] [] (k) (n) h :=
  lpg (X := fun (a : (Int32 × Int32)) => gV G mL_loses 2 Q 88 [some (sr c0), some (sr c1), some (si c2), none, none, some (si c5), some (si a.1), some (si a.2)] [] (k) (n) h) (fun a P2 hL hE hF => by
    delta fL_loses_B88 at hF
    refine v_iload (pc := 88) (i := 7) dL_loses_88 rfl ?_
    refine v_if_lt (pc := 90) 120 dL_loses_90 rfl (fun hc => ?_) (fun hc => ?_)
    · replace hF := (okB_if hF).1 hc
      exact v_lle [some (sr c0), none, none, none, none, some (si c5), some (si a.1), none] ⟨rfl, rfl, rfl, trivial⟩ (hJ a.1 (hE _ (okB_some hF)))
    replace hF := (okB_if hF).2 hc
    refine v_iload (pc := 93) (i := 7) dL_loses_93 rfl ?_
    refine v_istore (pc := 95) (i := 6) [some (sr c0), some (sr c1), some (si c2), none, none, some (si c5), some (si a.2), some (si a.2)] dL_loses_95 (by decide) rfl rfl ?_
    refine v_aload_n (pc := 97) (i := 0) dL_loses_97 rfl rfl ?_
    refine v_aload_n (pc := 98) (i := 1) dL_loses_98 rfl rfl ?_
    refine v_iload_n (pc := 99) (i := 2) dL_loses_99 rfl rfl ?_
    refine v_aload_n (pc := 100) (i := 1) dL_loses_100 rfl rfl ?_
    refine v_bipush (pc := 101) (v := (6 : Int32)) dL_loses_101 rfl ?_
    refine v_iload (pc := 103) (i := 7) dL_loses_103 rfl ?_
    refine v_imul (pc := 105) dL_loses_105 ?_
    refine v_iconst (pc := 106) (v := (2 : Int32)) dL_loses_106 rfl ?_
    refine v_iadd (pc := 107) dL_loses_107 ?_
    refine s_iald (pc := 108) dL_loses_108 hF (fun x1 hF => ?_)
    refine v_iconst (pc := 109) (v := (1 : Int32)) dL_loses_109 rfl ?_
    refine v_iadd (pc := 110) dL_loses_110 ?_
    refine v_iconst (pc := 111) (v := (0 : Int32)) dL_loses_111 rfl ?_
    refine cp_S (pc := 112) gI (as := [sr c0, sr c1, si c2, si (x1 + (1 : Int32)), si (0 : Int32)]) (st := []) (N := mL_kid) (k := k) (n := n) (k1 := 0) (n1 := 0) dL_loses_112 lkL_16 caL_kid csL_kid rfl (fun Q1 hq => tL_kid c0 c1 c2 (x1 + (1 : Int32)) (0 : Int32) h Q1 hq) ⟨by decide, by decide⟩ (Nat.le_of_ble_eq_true rfl) rfl hF (fun x2 hF => ?_)
    show gV G mL_loses 2 Q 115 [some (sr c0), some (sr c1), some (si c2), none, none, some (si c5), some (si a.2), some (si a.2)] [si x2] (k) (n) h
    refine v_istore (pc := 115) (i := 7) [some (sr c0), some (sr c1), some (si c2), none, none, some (si c5), some (si a.2), some (si x2)] dL_loses_115 (by decide) rfl rfl ?_
    refine v_goto (pc := 117) 88 dL_loses_117 rfl ?_
    exact v_lle [some (sr c0), some (sr c1), some (si c2), none, none, some (si c5), some (si a.2), some (si x2)] ⟨rfl, rfl, rfl, rfl, rfl, rfl, trivial⟩ (hL (a.2, x2) (okB_some hF)))
theorem tL_loses {G : gG} (a0 : (Option Nat)) (a1 : (Option Nat)) (a2 : Int32) (a3 : Int32) (h : hp) (Q : hQ) (hF : okB (fL_loses a0 a1 a2 a3 h) (pH gU Q)) : gS G mL_loses 2 0 0 [sr a0, sr a1, si a2, si a3] h Q := by
  delta fL_loses at hF
  refine gS_at [some (sr a0), some (sr a1), some (si a2), some (si a3), none, none, none, none] pl_L rfl (Nat.le_of_ble_eq_true rfl) rfl ?_
  refine v_aload_n (pc := 0) (i := 0) dL_loses_0 rfl rfl ?_
  refine v_iconst (pc := 1) (v := (2 : Int32)) dL_loses_1 rfl ?_
  refine s_iald (pc := 2) dL_loses_2 hF (fun x1 hF => ?_)
  refine mg (X := fun q2 => gV G mL_loses 2 Q 23 [some (sr a0), some (sr a1), some (si a2), some (si a3), none, none, none, none] [si q2] (0) (0) h) hF (fun _ hj3 hF => ?_) (fun q2 hF => ?_)
  · refine v_if_le (pc := 3) 22 dL_loses_3 rfl (fun hc => ?_) (fun hc => ?_)
    · replace hF := (okB_if hF).1 hc
      refine v_iconst (pc := 22) (v := (0 : Int32)) dL_loses_22 rfl ?_
      exact v_lle [some (sr a0), some (sr a1), some (si a2), some (si a3), none, none, none, none] ⟨rfl, rfl, rfl, rfl, trivial⟩ (hj3 (0 : Int32) (okB_some hF))
    replace hF := (okB_if hF).2 hc
    refine v_aload_n (pc := 6) (i := 1) dL_loses_6 rfl rfl ?_
    refine v_aload_n (pc := 7) (i := 0) dL_loses_7 rfl rfl ?_
    refine v_iconst (pc := 8) (v := (2 : Int32)) dL_loses_8 rfl ?_
    refine s_iald (pc := 9) dL_loses_9 hF (fun x4 hF => ?_)
    refine v_iconst (pc := 10) (v := (1 : Int32)) dL_loses_10 rfl ?_
    refine v_isub (pc := 11) dL_loses_11 ?_
    refine cp_S (pc := 12) gI (as := [sr a1, si (x4 - (1 : Int32))]) (st := []) (N := mL_isShown) (k := 0) (n := 0) (k1 := 0) (n1 := 0) dL_loses_12 lkL_101 caL_isShown csL_isShown rfl (fun Q1 hq => tL_isShown a1 (x4 - (1 : Int32)) h Q1 hq) ⟨by decide, by decide⟩ (Nat.le_of_ble_eq_true rfl) rfl hF (fun x5 hF => ?_)
    show gV G mL_loses 2 Q 15 [some (sr a0), some (sr a1), some (si a2), some (si a3), none, none, none, none] [si x5] (0) (0) h
    refine v_if_ne (pc := 15) 22 dL_loses_15 rfl (fun hc => ?_) (fun hc => ?_)
    · replace hF := (okB_if hF).2 hc
      refine v_iconst (pc := 22) (v := (0 : Int32)) dL_loses_22 rfl ?_
      exact v_lle [some (sr a0), some (sr a1), some (si a2), some (si a3), none, none, none, none] ⟨rfl, rfl, rfl, rfl, trivial⟩ (hj3 (0 : Int32) (okB_some hF))
    replace hF := (okB_if hF).1 hc
    refine v_iconst (pc := 18) (v := (1 : Int32)) dL_loses_18 rfl ?_
    refine v_goto (pc := 19) 23 dL_loses_19 rfl ?_
    exact v_lle [some (sr a0), some (sr a1), some (si a2), some (si a3), none, none, none, none] ⟨rfl, rfl, rfl, rfl, trivial⟩ (hj3 (1 : Int32) (okB_some hF))
  refine v_istore (pc := 23) (i := 4) [some (sr a0), some (sr a1), some (si a2), some (si a3), some (si q2), none, none, none] dL_loses_23 (by decide) rfl rfl ?_
  refine v_aload_n (pc := 25) (i := 0) dL_loses_25 rfl rfl ?_
  refine v_iconst (pc := 26) (v := (4 : Int32)) dL_loses_26 rfl ?_
  refine v_iload (pc := 27) (i := 4) dL_loses_27 rfl ?_
  refine mg (X := fun q6 => gV G mL_loses 2 Q 39 [some (sr a0), some (sr a1), some (si a2), some (si a3), some (si q2), none, none, none] [si q6, si (4 : Int32), sr a0] (0) (0) h) hF (fun _ hj7 hF => ?_) (fun q6 hF => ?_)
  · refine v_if_eq (pc := 29) 36 dL_loses_29 rfl (fun hc => ?_) (fun hc => ?_)
    · replace hF := (okB_if hF).1 hc
      refine v_aload_n (pc := 36) (i := 0) dL_loses_36 rfl rfl ?_
      refine v_iconst (pc := 37) (v := (4 : Int32)) dL_loses_37 rfl ?_
      refine s_iald (pc := 38) dL_loses_38 hF (fun x8 hF => ?_)
      exact v_lle [some (sr a0), some (sr a1), some (si a2), some (si a3), some (si q2), none, none, none] ⟨rfl, rfl, rfl, rfl, rfl, trivial⟩ (hj7 x8 (okB_some hF))
    replace hF := (okB_if hF).2 hc
    refine v_iconst (pc := 32) (v := (0 : Int32)) dL_loses_32 rfl ?_
    refine v_goto (pc := 33) 39 dL_loses_33 rfl ?_
    exact v_lle [some (sr a0), some (sr a1), some (si a2), some (si a3), some (si q2), none, none, none] ⟨rfl, rfl, rfl, rfl, rfl, trivial⟩ (hj7 (0 : Int32) (okB_some hF))
  refine s_iast (pc := 39) dL_loses_39 hF (fun h9 hF => ?_)
  refine v_aload_n (pc := 40) (i := 0) dL_loses_40 rfl rfl ?_
  refine v_iconst (pc := 41) (v := (2 : Int32)) dL_loses_41 rfl ?_
  refine v_iload (pc := 42) (i := 4) dL_loses_42 rfl ?_
  refine mg (X := fun q10 => gV G mL_loses 2 Q 54 [some (sr a0), some (sr a1), some (si a2), some (si a3), none, none, none, none] [si q10, si (2 : Int32), sr a0] (0) (0) h9) hF (fun _ hj11 hF => ?_) (fun q10 hF => ?_)
  · refine v_if_eq (pc := 44) 51 dL_loses_44 rfl (fun hc => ?_) (fun hc => ?_)
    · replace hF := (okB_if hF).1 hc
      refine v_aload_n (pc := 51) (i := 0) dL_loses_51 rfl rfl ?_
      refine v_iconst (pc := 52) (v := (2 : Int32)) dL_loses_52 rfl ?_
      refine s_iald (pc := 53) dL_loses_53 hF (fun x12 hF => ?_)
      exact v_lle [some (sr a0), some (sr a1), some (si a2), some (si a3), none, none, none, none] ⟨rfl, rfl, rfl, rfl, trivial⟩ (hj11 x12 (okB_some hF))
    replace hF := (okB_if hF).2 hc
    refine v_iconst (pc := 47) (v := (0 : Int32)) dL_loses_47 rfl ?_
    refine v_goto (pc := 48) 54 dL_loses_48 rfl ?_
    exact v_lle [some (sr a0), some (sr a1), some (si a2), some (si a3), none, none, none, none] ⟨rfl, rfl, rfl, rfl, trivial⟩ (hj11 (0 : Int32) (okB_some hF))
  refine s_iast (pc := 54) dL_loses_54 hF (fun h13 hF => ?_)
  refine v_aload_n (pc := 55) (i := 1) dL_loses_55 rfl rfl ?_
  refine v_aload_n (pc := 56) (i := 0) dL_loses_56 rfl rfl ?_
  refine v_iconst (pc := 57) (v := (1 : Int32)) dL_loses_57 rfl ?_
  refine s_iald (pc := 58) dL_loses_58 hF (fun x14 hF => ?_)
  refine cp_S (pc := 59) gI (as := [sr a1, si x14]) (st := []) (N := mL_isShown) (k := 0) (n := 0) (k1 := 0) (n1 := 0) dL_loses_59 lkL_101 caL_isShown csL_isShown rfl (fun Q1 hq => tL_isShown a1 x14 h13 Q1 hq) ⟨by decide, by decide⟩ (Nat.le_of_ble_eq_true rfl) rfl hF (fun x15 hF => ?_)
  show gV G mL_loses 2 Q 62 [some (sr a0), some (sr a1), some (si a2), some (si a3), none, none, none, none] [si x15] (0) (0) h13
  refine v_if_ne (pc := 62) 139 dL_loses_62 rfl (fun hc => ?_) (fun hc => ?_)
  · replace hF := (okB_if hF).2 hc
    exact v_ret (pc := 139) dL_loses_139 rfl (okr hF fun q => q)
  replace hF := (okB_if hF).1 hc
  refine v_aload_n (pc := 65) (i := 0) dL_loses_65 rfl rfl ?_
  refine v_aload_n (pc := 66) (i := 1) dL_loses_66 rfl rfl ?_
  refine v_iload_n (pc := 67) (i := 2) dL_loses_67 rfl rfl ?_
  refine v_iload_n (pc := 68) (i := 3) dL_loses_68 rfl rfl ?_
  refine v_iconst (pc := 69) (v := (0 : Int32)) dL_loses_69 rfl ?_
  refine cp_S (pc := 70) gI (as := [sr a0, sr a1, si a2, si a3, si (0 : Int32)]) (st := []) (N := mL_kid) (k := 0) (n := 0) (k1 := 0) (n1 := 0) dL_loses_70 lkL_16 caL_kid csL_kid rfl (fun Q1 hq => tL_kid a0 a1 a2 a3 (0 : Int32) h13 Q1 hq) ⟨by decide, by decide⟩ (Nat.le_of_ble_eq_true rfl) rfl hF (fun x16 hF => ?_)
  show gV G mL_loses 2 Q 73 [some (sr a0), some (sr a1), some (si a2), some (si a3), none, none, none, none] [si x16] (0) (0) h13
  refine v_istore (pc := 73) (i := 5) [some (sr a0), some (sr a1), some (si a2), some (si a3), none, some (si x16), none, none] dL_loses_73 (by decide) rfl rfl ?_
  refine v_iload_n (pc := 75) (i := 2) dL_loses_75 rfl rfl ?_
  refine v_istore (pc := 76) (i := 6) [some (sr a0), some (sr a1), some (si a2), some (si a3), none, some (si x16), some (si a2), none] dL_loses_76 (by decide) rfl rfl ?_
  refine v_aload_n (pc := 78) (i := 0) dL_loses_78 rfl rfl ?_
  refine v_aload_n (pc := 79) (i := 1) dL_loses_79 rfl rfl ?_
  refine v_iload_n (pc := 80) (i := 2) dL_loses_80 rfl rfl ?_
  refine v_iconst (pc := 81) (v := (0 : Int32)) dL_loses_81 rfl ?_
  refine v_iconst (pc := 82) (v := (0 : Int32)) dL_loses_82 rfl ?_
  refine cp_S (pc := 83) gI (as := [sr a0, sr a1, si a2, si (0 : Int32), si (0 : Int32)]) (st := []) (N := mL_kid) (k := 0) (n := 0) (k1 := 0) (n1 := 0) dL_loses_83 lkL_16 caL_kid csL_kid rfl (fun Q1 hq => tL_kid a0 a1 a2 (0 : Int32) (0 : Int32) h13 Q1 hq) ⟨by decide, by decide⟩ (Nat.le_of_ble_eq_true rfl) rfl hF (fun x17 hF => ?_)
  show gV G mL_loses 2 Q 86 [some (sr a0), some (sr a1), some (si a2), some (si a3), none, some (si x16), some (si a2), none] [si x17] (0) (0) h13
  refine v_istore (pc := 86) (i := 7) [some (sr a0), some (sr a1), some (si a2), some (si a3), none, some (si x16), some (si a2), some (si x17)] dL_loses_86 (by decide) rfl rfl ?_
  refine mg (X := fun q18 => gV G mL_loses 2 Q 120 [some (sr a0), none, none, none, none, some (si x16), some (si q18), none] [] (0) (0) h13) hF (fun _ hj23 hF => v_lle [some (sr a0), some (sr a1), some (si a2), none, none, some (si x16), some (si a2), some (si x17)] ⟨rfl, rfl, rfl, rfl, rfl, rfl, trivial⟩ (lL_loses_88 a0 a1 a2 x16 h13 hj23 FU (a2, x17) hF)) (fun q18 hF => ?_)
  refine v_aload_n (pc := 120) (i := 0) dL_loses_120 rfl rfl ?_
  refine v_iconst (pc := 121) (v := (1 : Int32)) dL_loses_121 rfl ?_
  refine v_iload (pc := 122) (i := 5) dL_loses_122 rfl ?_
  refine v_if_ge (pc := 124) 132 dL_loses_124 rfl (fun hc => ?_) (fun hc => ?_)
  · replace hF := (okB_if hF).1 hc
    refine v_iload (pc := 132) (i := 5) dL_loses_132 rfl ?_
    refine s_iast (pc := 134) dL_loses_134 hF (fun h19 hF => ?_)
    refine v_aload_n (pc := 135) (i := 0) dL_loses_135 rfl rfl ?_
    refine v_iconst (pc := 136) (v := (3 : Int32)) dL_loses_136 rfl ?_
    refine v_iconst (pc := 137) (v := (0 : Int32)) dL_loses_137 rfl ?_
    refine s_iast (pc := 138) dL_loses_138 hF (fun h20 hF => ?_)
    exact v_ret (pc := 139) dL_loses_139 rfl (okr hF fun q => q)
  replace hF := (okB_if hF).2 hc
  refine v_iload (pc := 127) (i := 6) dL_loses_127 rfl ?_
  refine v_goto (pc := 129) 134 dL_loses_129 rfl ?_
  refine s_iast (pc := 134) dL_loses_134 hF (fun h21 hF => ?_)
  refine v_aload_n (pc := 135) (i := 0) dL_loses_135 rfl rfl ?_
  refine v_iconst (pc := 136) (v := (3 : Int32)) dL_loses_136 rfl ?_
  refine v_iconst (pc := 137) (v := (0 : Int32)) dL_loses_137 rfl ?_
  refine s_iast (pc := 138) dL_loses_138 hF (fun h22 hF => ?_)
  exact v_ret (pc := 139) dL_loses_139 rfl (okr hF fun q => q)
/-! BrailleDeskLaw.code -/
theorem tL_code {G : gG} (a0 : Int32) (h : hp) (Q : hQ) (hF : okB (fL_code a0) (pP gI Q h)) : gS G mL_code 0 0 0 [si a0] h Q := by
  delta fL_code at hF
  refine gS_at [some (si a0)] pl_L rfl (Nat.le_of_ble_eq_true rfl) rfl ?_
  refine v_iload_n (pc := 0) (i := 0) dL_code_0 rfl rfl ?_
  refine v_bipush (pc := 1) (v := (14 : Int32)) dL_code_1 rfl ?_
  refine v_icmp_ge (pc := 3) 16 dL_code_3 rfl (fun hc => ?_) (fun hc => ?_)
  · replace hF := (okB_if hF).1 hc
    refine v_iload_n (pc := 16) (i := 0) dL_code_16 rfl rfl ?_
    refine v_bipush (pc := 17) (v := (34 : Int32)) dL_code_17 rfl ?_
    refine v_icmp_ge (pc := 19) 32 dL_code_19 rfl (fun hc => ?_) (fun hc => ?_)
    · replace hF := (okB_if hF).1 hc
      refine v_iload_n (pc := 32) (i := 0) dL_code_32 rfl rfl ?_
      refine v_bipush (pc := 33) (v := (48 : Int32)) dL_code_33 rfl ?_
      refine v_icmp_ge (pc := 35) 48 dL_code_35 rfl (fun hc => ?_) (fun hc => ?_)
      · replace hF := (okB_if hF).1 hc
        refine v_iload_n (pc := 48) (i := 0) dL_code_48 rfl rfl ?_
        refine v_bipush (pc := 49) (v := (62 : Int32)) dL_code_49 rfl ?_
        refine v_icmp_ge (pc := 51) 64 dL_code_51 rfl (fun hc => ?_) (fun hc => ?_)
        · replace hF := (okB_if hF).1 hc
          refine v_iload_n (pc := 64) (i := 0) dL_code_64 rfl rfl ?_
          refine v_bipush (pc := 65) (v := (62 : Int32)) dL_code_65 rfl ?_
          refine v_icmp_ne (pc := 67) 75 dL_code_67 rfl (fun hc => ?_) (fun hc => ?_)
          · replace hF := (okB_if hF).2 hc
            refine v_ldc (pc := 75) (v := (119295 : Int32)) dL_code_75 ctL_212 ?_
            exact v_iret (pc := 77) dL_code_77 rfl rfl (okr hF fun q => q)
          replace hF := (okB_if hF).1 hc
          refine v_ldc (pc := 70) (v := (119040 : Int32)) dL_code_70 ctL_211 ?_
          refine v_goto (pc := 72) 77 dL_code_72 rfl ?_
          exact v_iret (pc := 77) dL_code_77 rfl rfl (okr hF fun q => q)
        replace hF := (okB_if hF).2 hc
        refine v_bipush (pc := 54) (v := (32 : Int32)) dL_code_54 rfl ?_
        refine v_iload_n (pc := 56) (i := 0) dL_code_56 rfl rfl ?_
        refine v_bipush (pc := 57) (v := (15 : Int32)) dL_code_57 rfl ?_
        refine s_irem (pc := 59) dL_code_59 hF (fun hF => ?_)
        refine v_iadd (pc := 60) dL_code_60 ?_
        refine v_goto (pc := 61) 77 dL_code_61 rfl ?_
        exact v_iret (pc := 77) dL_code_77 rfl rfl (okr hF fun q => q)
      replace hF := (okB_if hF).2 hc
      refine v_bipush (pc := 38) (v := (48 : Int32)) dL_code_38 rfl ?_
      refine v_iload_n (pc := 40) (i := 0) dL_code_40 rfl rfl ?_
      refine v_bipush (pc := 41) (v := (10 : Int32)) dL_code_41 rfl ?_
      refine s_irem (pc := 43) dL_code_43 hF (fun hF => ?_)
      refine v_iadd (pc := 44) dL_code_44 ?_
      refine v_goto (pc := 45) 77 dL_code_45 rfl ?_
      exact v_iret (pc := 77) dL_code_77 rfl rfl (okr hF fun q => q)
    replace hF := (okB_if hF).2 hc
    refine v_bipush (pc := 22) (v := (97 : Int32)) dL_code_22 rfl ?_
    refine v_iload_n (pc := 24) (i := 0) dL_code_24 rfl rfl ?_
    refine v_bipush (pc := 25) (v := (26 : Int32)) dL_code_25 rfl ?_
    refine s_irem (pc := 27) dL_code_27 hF (fun hF => ?_)
    refine v_iadd (pc := 28) dL_code_28 ?_
    refine v_goto (pc := 29) 77 dL_code_29 rfl ?_
    exact v_iret (pc := 77) dL_code_77 rfl rfl (okr hF fun q => q)
  replace hF := (okB_if hF).2 hc
  refine v_bipush (pc := 6) (v := (65 : Int32)) dL_code_6 rfl ?_
  refine v_iload_n (pc := 8) (i := 0) dL_code_8 rfl rfl ?_
  refine v_bipush (pc := 9) (v := (7 : Int32)) dL_code_9 rfl ?_
  refine s_irem (pc := 11) dL_code_11 hF (fun hF => ?_)
  refine v_iadd (pc := 12) dL_code_12 ?_
  refine v_goto (pc := 13) 77 dL_code_13 rfl ?_
  exact v_iret (pc := 77) dL_code_77 rfl rfl (okr hF fun q => q)
