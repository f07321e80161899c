/-! ===== methods: their functions and rows ===== -/
theorem dX1_part___0 : decode cX1_part__ 0 = .ok (.aload_n 0, 1) := by decide +kernel
theorem dX1_part___1 : decode cX1_part__ 1 = .ok (.getfield 15, 3) := by decide +kernel
theorem dX1_part___4 : decode cX1_part__ 4 = .ok (.ifCond .le 9, 3) := by decide +kernel
theorem dX1_part___7 : decode cX1_part__ 7 = .ok (.aload_n 0, 1) := by decide +kernel
theorem dX1_part___8 : decode cX1_part__ 8 = .ok (.bipush 32, 2) := by decide +kernel
theorem dX1_part___10 : decode cX1_part__ 10 = .ok (.invokevirtual 23, 3) := by decide +kernel
theorem dX1_part___13 : decode cX1_part__ 13 = .ok (.iload_n 1, 1) := by decide +kernel
theorem dX1_part___14 : decode cX1_part__ 14 = .ok (.bipush 10, 2) := by decide +kernel
theorem dX1_part___16 : decode cX1_part__ 16 = .ok (.if_icmp .lt 14, 3) := by decide +kernel
theorem dX1_part___19 : decode cX1_part__ 19 = .ok (.aload_n 0, 1) := by decide +kernel
theorem dX1_part___20 : decode cX1_part__ 20 = .ok (.bipush 48, 2) := by decide +kernel
theorem dX1_part___22 : decode cX1_part__ 22 = .ok (.iload_n 1, 1) := by decide +kernel
theorem dX1_part___23 : decode cX1_part__ 23 = .ok (.bipush 10, 2) := by decide +kernel
theorem dX1_part___25 : decode cX1_part__ 25 = .ok (.idiv, 1) := by decide +kernel
theorem dX1_part___26 : decode cX1_part__ 26 = .ok (.iadd, 1) := by decide +kernel
theorem dX1_part___27 : decode cX1_part__ 27 = .ok (.invokevirtual 23, 3) := by decide +kernel
theorem dX1_part___30 : decode cX1_part__ 30 = .ok (.aload_n 0, 1) := by decide +kernel
theorem dX1_part___31 : decode cX1_part__ 31 = .ok (.bipush 48, 2) := by decide +kernel
theorem dX1_part___33 : decode cX1_part__ 33 = .ok (.iload_n 1, 1) := by decide +kernel
theorem dX1_part___34 : decode cX1_part__ 34 = .ok (.bipush 10, 2) := by decide +kernel
theorem dX1_part___36 : decode cX1_part__ 36 = .ok (.irem, 1) := by decide +kernel
theorem dX1_part___37 : decode cX1_part__ 37 = .ok (.iadd, 1) := by decide +kernel
theorem dX1_part___38 : decode cX1_part__ 38 = .ok (.invokevirtual 23, 3) := by decide +kernel
theorem dX1_part___41 : decode cX1_part__ 41 = .ok (.return_, 1) := by decide +kernel
theorem dX0_pointsOf_0 : decode cX0_pointsOf 0 = .ok (.iload_n 0, 1) := by decide +kernel
theorem dX0_pointsOf_1 : decode cX0_pointsOf 1 = .ok (.ifCond .lt 19, 3) := by decide +kernel
theorem dX0_pointsOf_4 : decode cX0_pointsOf 4 = .ok (.iload_n 0, 1) := by decide +kernel
theorem dX0_pointsOf_5 : decode cX0_pointsOf 5 = .ok (.getstatic 9, 3) := by decide +kernel
theorem dX0_pointsOf_8 : decode cX0_pointsOf 8 = .ok (.arraylength, 1) := by decide +kernel
theorem dX0_pointsOf_9 : decode cX0_pointsOf 9 = .ok (.if_icmp .ge 11, 3) := by decide +kernel
theorem dX0_pointsOf_12 : decode cX0_pointsOf 12 = .ok (.getstatic 9, 3) := by decide +kernel
theorem dX0_pointsOf_15 : decode cX0_pointsOf 15 = .ok (.iload_n 0, 1) := by decide +kernel
theorem dX0_pointsOf_16 : decode cX0_pointsOf 16 = .ok (.iaload, 1) := by decide +kernel
theorem dX0_pointsOf_17 : decode cX0_pointsOf 17 = .ok (.goto 4, 3) := by decide +kernel
theorem dX0_pointsOf_20 : decode cX0_pointsOf 20 = .ok (.iconst 0, 1) := by decide +kernel
theorem dX0_pointsOf_21 : decode cX0_pointsOf 21 = .ok (.ireturn, 1) := by decide +kernel
theorem dX0_letterOf_0 : decode cX0_letterOf 0 = .ok (.iconst 0, 1) := by decide +kernel
theorem dX0_letterOf_1 : decode cX0_letterOf 1 = .ok (.istore_n 1, 1) := by decide +kernel
theorem dX0_letterOf_2 : decode cX0_letterOf 2 = .ok (.iload_n 1, 1) := by decide +kernel
theorem dX0_letterOf_3 : decode cX0_letterOf 3 = .ok (.getstatic 9, 3) := by decide +kernel
theorem dX0_letterOf_6 : decode cX0_letterOf 6 = .ok (.arraylength, 1) := by decide +kernel
theorem dX0_letterOf_7 : decode cX0_letterOf 7 = .ok (.if_icmp .ge 20, 3) := by decide +kernel
theorem dX0_letterOf_10 : decode cX0_letterOf 10 = .ok (.getstatic 9, 3) := by decide +kernel
theorem dX0_letterOf_13 : decode cX0_letterOf 13 = .ok (.iload_n 1, 1) := by decide +kernel
theorem dX0_letterOf_14 : decode cX0_letterOf 14 = .ok (.iaload, 1) := by decide +kernel
theorem dX0_letterOf_15 : decode cX0_letterOf 15 = .ok (.iload_n 0, 1) := by decide +kernel
theorem dX0_letterOf_16 : decode cX0_letterOf 16 = .ok (.if_icmp .ne 5, 3) := by decide +kernel
theorem dX0_letterOf_19 : decode cX0_letterOf 19 = .ok (.iload_n 1, 1) := by decide +kernel
theorem dX0_letterOf_20 : decode cX0_letterOf 20 = .ok (.ireturn, 1) := by decide +kernel
theorem dX0_letterOf_21 : decode cX0_letterOf 21 = .ok (.iinc 1 1, 3) := by decide +kernel
theorem dX0_letterOf_24 : decode cX0_letterOf 24 = .ok (.goto (-22), 3) := by decide +kernel
theorem dX0_letterOf_27 : decode cX0_letterOf 27 = .ok (.iconst (-1), 1) := by decide +kernel
theorem dX0_letterOf_28 : decode cX0_letterOf 28 = .ok (.ireturn, 1) := by decide +kernel
theorem dX0_firstPoints_0 : decode cX0_firstPoints 0 = .ok (.aload_n 0, 1) := by decide +kernel
theorem dX0_firstPoints_1 : decode cX0_firstPoints 1 = .ok (.invokevirtual 15, 3) := by decide +kernel
theorem dX0_firstPoints_4 : decode cX0_firstPoints 4 = .ok (.ifCond .eq 7, 3) := by decide +kernel
theorem dX0_firstPoints_7 : decode cX0_firstPoints 7 = .ok (.iconst 0, 1) := by decide +kernel
theorem dX0_firstPoints_8 : decode cX0_firstPoints 8 = .ok (.goto 14, 3) := by decide +kernel
theorem dX0_firstPoints_11 : decode cX0_firstPoints 11 = .ok (.aload_n 0, 1) := by decide +kernel
theorem dX0_firstPoints_12 : decode cX0_firstPoints 12 = .ok (.iconst 0, 1) := by decide +kernel
theorem dX0_firstPoints_13 : decode cX0_firstPoints 13 = .ok (.invokevirtual 21, 3) := by decide +kernel
theorem dX0_firstPoints_16 : decode cX0_firstPoints 16 = .ok (.bipush 97, 2) := by decide +kernel
theorem dX0_firstPoints_18 : decode cX0_firstPoints 18 = .ok (.isub, 1) := by decide +kernel
theorem dX0_firstPoints_19 : decode cX0_firstPoints 19 = .ok (.invokestatic 25, 3) := by decide +kernel
theorem dX0_firstPoints_22 : decode cX0_firstPoints 22 = .ok (.ireturn, 1) := by decide +kernel
theorem dX0_signOf_0 : decode cX0_signOf 0 = .ok (.iload_n 0, 1) := by decide +kernel
theorem dX0_signOf_1 : decode cX0_signOf 1 = .ok (.lookupswitch 64 #[(32, 51), (44, 56), (45, 61), (46, 53), (63, 58)], 51) := by decide +kernel
theorem dX0_signOf_52 : decode cX0_signOf 52 = .ok (.iconst 0, 1) := by decide +kernel
theorem dX0_signOf_53 : decode cX0_signOf 53 = .ok (.ireturn, 1) := by decide +kernel
theorem dX0_signOf_54 : decode cX0_signOf 54 = .ok (.bipush 50, 2) := by decide +kernel
theorem dX0_signOf_56 : decode cX0_signOf 56 = .ok (.ireturn, 1) := by decide +kernel
theorem dX0_signOf_57 : decode cX0_signOf 57 = .ok (.iconst 2, 1) := by decide +kernel
theorem dX0_signOf_58 : decode cX0_signOf 58 = .ok (.ireturn, 1) := by decide +kernel
theorem dX0_signOf_59 : decode cX0_signOf 59 = .ok (.bipush 38, 2) := by decide +kernel
theorem dX0_signOf_61 : decode cX0_signOf 61 = .ok (.ireturn, 1) := by decide +kernel
theorem dX0_signOf_62 : decode cX0_signOf 62 = .ok (.bipush 36, 2) := by decide +kernel
theorem dX0_signOf_64 : decode cX0_signOf 64 = .ok (.ireturn, 1) := by decide +kernel
theorem dX0_signOf_65 : decode cX0_signOf 65 = .ok (.bipush 63, 2) := by decide +kernel
theorem dX0_signOf_67 : decode cX0_signOf 67 = .ok (.ireturn, 1) := by decide +kernel
theorem dX0_characterOfSign_0 : decode cX0_characterOfSign 0 = .ok (.iload_n 0, 1) := by decide +kernel
theorem dX0_characterOfSign_1 : decode cX0_characterOfSign 1 = .ok (.lookupswitch 55 #[(2, 46), (36, 52), (38, 49), (50, 43)], 43) := by decide +kernel
theorem dX0_characterOfSign_44 : decode cX0_characterOfSign 44 = .ok (.bipush 46, 2) := by decide +kernel
theorem dX0_characterOfSign_46 : decode cX0_characterOfSign 46 = .ok (.ireturn, 1) := by decide +kernel
theorem dX0_characterOfSign_47 : decode cX0_characterOfSign 47 = .ok (.bipush 44, 2) := by decide +kernel
theorem dX0_characterOfSign_49 : decode cX0_characterOfSign 49 = .ok (.ireturn, 1) := by decide +kernel
theorem dX0_characterOfSign_50 : decode cX0_characterOfSign 50 = .ok (.bipush 63, 2) := by decide +kernel
theorem dX0_characterOfSign_52 : decode cX0_characterOfSign 52 = .ok (.ireturn, 1) := by decide +kernel
theorem dX0_characterOfSign_53 : decode cX0_characterOfSign 53 = .ok (.bipush 45, 2) := by decide +kernel
theorem dX0_characterOfSign_55 : decode cX0_characterOfSign 55 = .ok (.ireturn, 1) := by decide +kernel
theorem dX0_characterOfSign_56 : decode cX0_characterOfSign 56 = .ok (.iconst (-1), 1) := by decide +kernel
theorem dX0_characterOfSign_57 : decode cX0_characterOfSign 57 = .ok (.ireturn, 1) := by decide +kernel
theorem dX0_isSmall_0 : decode cX0_isSmall 0 = .ok (.iload_n 0, 1) := by decide +kernel
theorem dX0_isSmall_1 : decode cX0_isSmall 1 = .ok (.bipush 97, 2) := by decide +kernel
theorem dX0_isSmall_3 : decode cX0_isSmall 3 = .ok (.if_icmp .lt 13, 3) := by decide +kernel
theorem dX0_isSmall_6 : decode cX0_isSmall 6 = .ok (.iload_n 0, 1) := by decide +kernel
theorem dX0_isSmall_7 : decode cX0_isSmall 7 = .ok (.bipush 122, 2) := by decide +kernel
theorem dX0_isSmall_9 : decode cX0_isSmall 9 = .ok (.if_icmp .gt 7, 3) := by decide +kernel
theorem dX0_isSmall_12 : decode cX0_isSmall 12 = .ok (.iconst 1, 1) := by decide +kernel
theorem dX0_isSmall_13 : decode cX0_isSmall 13 = .ok (.goto 4, 3) := by decide +kernel
theorem dX0_isSmall_16 : decode cX0_isSmall 16 = .ok (.iconst 0, 1) := by decide +kernel
theorem dX0_isSmall_17 : decode cX0_isSmall 17 = .ok (.ireturn, 1) := by decide +kernel
theorem dX0_isCapital_0 : decode cX0_isCapital 0 = .ok (.iload_n 0, 1) := by decide +kernel
theorem dX0_isCapital_1 : decode cX0_isCapital 1 = .ok (.bipush 65, 2) := by decide +kernel
theorem dX0_isCapital_3 : decode cX0_isCapital 3 = .ok (.if_icmp .lt 13, 3) := by decide +kernel
theorem dX0_isCapital_6 : decode cX0_isCapital 6 = .ok (.iload_n 0, 1) := by decide +kernel
theorem dX0_isCapital_7 : decode cX0_isCapital 7 = .ok (.bipush 90, 2) := by decide +kernel
theorem dX0_isCapital_9 : decode cX0_isCapital 9 = .ok (.if_icmp .gt 7, 3) := by decide +kernel
theorem dX0_isCapital_12 : decode cX0_isCapital 12 = .ok (.iconst 1, 1) := by decide +kernel
theorem dX0_isCapital_13 : decode cX0_isCapital 13 = .ok (.goto 4, 3) := by decide +kernel
theorem dX0_isCapital_16 : decode cX0_isCapital 16 = .ok (.iconst 0, 1) := by decide +kernel
theorem dX0_isCapital_17 : decode cX0_isCapital 17 = .ok (.ireturn, 1) := by decide +kernel
theorem dX0_isDigit_0 : decode cX0_isDigit 0 = .ok (.iload_n 0, 1) := by decide +kernel
theorem dX0_isDigit_1 : decode cX0_isDigit 1 = .ok (.bipush 48, 2) := by decide +kernel
theorem dX0_isDigit_3 : decode cX0_isDigit 3 = .ok (.if_icmp .lt 13, 3) := by decide +kernel
theorem dX0_isDigit_6 : decode cX0_isDigit 6 = .ok (.iload_n 0, 1) := by decide +kernel
theorem dX0_isDigit_7 : decode cX0_isDigit 7 = .ok (.bipush 57, 2) := by decide +kernel
theorem dX0_isDigit_9 : decode cX0_isDigit 9 = .ok (.if_icmp .gt 7, 3) := by decide +kernel
theorem dX0_isDigit_12 : decode cX0_isDigit 12 = .ok (.iconst 1, 1) := by decide +kernel
theorem dX0_isDigit_13 : decode cX0_isDigit 13 = .ok (.goto 4, 3) := by decide +kernel
theorem dX0_isDigit_16 : decode cX0_isDigit 16 = .ok (.iconst 0, 1) := by decide +kernel
theorem dX0_isDigit_17 : decode cX0_isDigit 17 = .ok (.ireturn, 1) := by decide +kernel
theorem dX0_isLetter_0 : decode cX0_isLetter 0 = .ok (.iload_n 0, 1) := by decide +kernel
theorem dX0_isLetter_1 : decode cX0_isLetter 1 = .ok (.bipush 97, 2) := by decide +kernel
theorem dX0_isLetter_3 : decode cX0_isLetter 3 = .ok (.if_icmp .lt 9, 3) := by decide +kernel
theorem dX0_isLetter_6 : decode cX0_isLetter 6 = .ok (.iload_n 0, 1) := by decide +kernel
theorem dX0_isLetter_7 : decode cX0_isLetter 7 = .ok (.bipush 122, 2) := by decide +kernel
theorem dX0_isLetter_9 : decode cX0_isLetter 9 = .ok (.if_icmp .le 15, 3) := by decide +kernel
theorem dX0_isLetter_12 : decode cX0_isLetter 12 = .ok (.iload_n 0, 1) := by decide +kernel
theorem dX0_isLetter_13 : decode cX0_isLetter 13 = .ok (.bipush 65, 2) := by decide +kernel
theorem dX0_isLetter_15 : decode cX0_isLetter 15 = .ok (.if_icmp .lt 13, 3) := by decide +kernel
theorem dX0_isLetter_18 : decode cX0_isLetter 18 = .ok (.iload_n 0, 1) := by decide +kernel
theorem dX0_isLetter_19 : decode cX0_isLetter 19 = .ok (.bipush 90, 2) := by decide +kernel
theorem dX0_isLetter_21 : decode cX0_isLetter 21 = .ok (.if_icmp .gt 7, 3) := by decide +kernel
theorem dX0_isLetter_24 : decode cX0_isLetter 24 = .ok (.iconst 1, 1) := by decide +kernel
theorem dX0_isLetter_25 : decode cX0_isLetter 25 = .ok (.goto 4, 3) := by decide +kernel
theorem dX0_isLetter_28 : decode cX0_isLetter 28 = .ok (.iconst 0, 1) := by decide +kernel
theorem dX0_isLetter_29 : decode cX0_isLetter 29 = .ok (.ireturn, 1) := by decide +kernel
theorem dX0_capitalSigns_0 : decode cX0_capitalSigns 0 = .ok (.iload_n 1, 1) := by decide +kernel
theorem dX0_capitalSigns_1 : decode cX0_capitalSigns 1 = .ok (.istore_n 2, 1) := by decide +kernel
theorem dX0_capitalSigns_2 : decode cX0_capitalSigns 2 = .ok (.iconst 1, 1) := by decide +kernel
theorem dX0_capitalSigns_3 : decode cX0_capitalSigns 3 = .ok (.istore_n 3, 1) := by decide +kernel
theorem dX0_capitalSigns_4 : decode cX0_capitalSigns 4 = .ok (.iload_n 2, 1) := by decide +kernel
theorem dX0_capitalSigns_5 : decode cX0_capitalSigns 5 = .ok (.ifCond .le 43, 3) := by decide +kernel
theorem dX0_capitalSigns_8 : decode cX0_capitalSigns 8 = .ok (.aload_n 0, 1) := by decide +kernel
theorem dX0_capitalSigns_9 : decode cX0_capitalSigns 9 = .ok (.iload_n 2, 1) := by decide +kernel
theorem dX0_capitalSigns_10 : decode cX0_capitalSigns 10 = .ok (.iconst 1, 1) := by decide +kernel
theorem dX0_capitalSigns_11 : decode cX0_capitalSigns 11 = .ok (.isub, 1) := by decide +kernel
theorem dX0_capitalSigns_12 : decode cX0_capitalSigns 12 = .ok (.invokevirtual 35, 3) := by decide +kernel
theorem dX0_capitalSigns_15 : decode cX0_capitalSigns 15 = .ok (.invokestatic 59, 3) := by decide +kernel
theorem dX0_capitalSigns_18 : decode cX0_capitalSigns 18 = .ok (.ifCond .eq 30, 3) := by decide +kernel
theorem dX0_capitalSigns_21 : decode cX0_capitalSigns 21 = .ok (.iinc 2 (-1), 3) := by decide +kernel
theorem dX0_capitalSigns_24 : decode cX0_capitalSigns 24 = .ok (.iload_n 3, 1) := by decide +kernel
theorem dX0_capitalSigns_25 : decode cX0_capitalSigns 25 = .ok (.ifCond .eq 18, 3) := by decide +kernel
theorem dX0_capitalSigns_28 : decode cX0_capitalSigns 28 = .ok (.aload_n 0, 1) := by decide +kernel
theorem dX0_capitalSigns_29 : decode cX0_capitalSigns 29 = .ok (.iload_n 2, 1) := by decide +kernel
theorem dX0_capitalSigns_30 : decode cX0_capitalSigns 30 = .ok (.invokevirtual 35, 3) := by decide +kernel
theorem dX0_capitalSigns_33 : decode cX0_capitalSigns 33 = .ok (.invokestatic 49, 3) := by decide +kernel
theorem dX0_capitalSigns_36 : decode cX0_capitalSigns 36 = .ok (.ifCond .eq 7, 3) := by decide +kernel
theorem dX0_capitalSigns_39 : decode cX0_capitalSigns 39 = .ok (.iconst 1, 1) := by decide +kernel
theorem dX0_capitalSigns_40 : decode cX0_capitalSigns 40 = .ok (.goto 4, 3) := by decide +kernel
theorem dX0_capitalSigns_43 : decode cX0_capitalSigns 43 = .ok (.iconst 0, 1) := by decide +kernel
theorem dX0_capitalSigns_44 : decode cX0_capitalSigns 44 = .ok (.istore_n 3, 1) := by decide +kernel
theorem dX0_capitalSigns_45 : decode cX0_capitalSigns 45 = .ok (.goto (-41), 3) := by decide +kernel
theorem dX0_capitalSigns_48 : decode cX0_capitalSigns 48 = .ok (.iload_n 1, 1) := by decide +kernel
theorem dX0_capitalSigns_49 : decode cX0_capitalSigns 49 = .ok (.iconst 1, 1) := by decide +kernel
theorem dX0_capitalSigns_50 : decode cX0_capitalSigns 50 = .ok (.iadd, 1) := by decide +kernel
theorem dX0_capitalSigns_51 : decode cX0_capitalSigns 51 = .ok (.istore 4, 2) := by decide +kernel
theorem dX0_capitalSigns_53 : decode cX0_capitalSigns 53 = .ok (.iload 4, 2) := by decide +kernel
theorem dX0_capitalSigns_55 : decode cX0_capitalSigns 55 = .ok (.aload_n 0, 1) := by decide +kernel
theorem dX0_capitalSigns_56 : decode cX0_capitalSigns 56 = .ok (.invokevirtual 29, 3) := by decide +kernel
theorem dX0_capitalSigns_59 : decode cX0_capitalSigns 59 = .ok (.if_icmp .ge 43, 3) := by decide +kernel
theorem dX0_capitalSigns_62 : decode cX0_capitalSigns 62 = .ok (.aload_n 0, 1) := by decide +kernel
theorem dX0_capitalSigns_63 : decode cX0_capitalSigns 63 = .ok (.iload 4, 2) := by decide +kernel
theorem dX0_capitalSigns_65 : decode cX0_capitalSigns 65 = .ok (.invokevirtual 35, 3) := by decide +kernel
theorem dX0_capitalSigns_68 : decode cX0_capitalSigns 68 = .ok (.invokestatic 59, 3) := by decide +kernel
theorem dX0_capitalSigns_71 : decode cX0_capitalSigns 71 = .ok (.ifCond .eq 31, 3) := by decide +kernel
theorem dX0_capitalSigns_74 : decode cX0_capitalSigns 74 = .ok (.iload_n 3, 1) := by decide +kernel
theorem dX0_capitalSigns_75 : decode cX0_capitalSigns 75 = .ok (.ifCond .eq 19, 3) := by decide +kernel
theorem dX0_capitalSigns_78 : decode cX0_capitalSigns 78 = .ok (.aload_n 0, 1) := by decide +kernel
theorem dX0_capitalSigns_79 : decode cX0_capitalSigns 79 = .ok (.iload 4, 2) := by decide +kernel
theorem dX0_capitalSigns_81 : decode cX0_capitalSigns 81 = .ok (.invokevirtual 35, 3) := by decide +kernel
theorem dX0_capitalSigns_84 : decode cX0_capitalSigns 84 = .ok (.invokestatic 49, 3) := by decide +kernel
theorem dX0_capitalSigns_87 : decode cX0_capitalSigns 87 = .ok (.ifCond .eq 7, 3) := by decide +kernel
theorem dX0_capitalSigns_90 : decode cX0_capitalSigns 90 = .ok (.iconst 1, 1) := by decide +kernel
theorem dX0_capitalSigns_91 : decode cX0_capitalSigns 91 = .ok (.goto 4, 3) := by decide +kernel
theorem dX0_capitalSigns_94 : decode cX0_capitalSigns 94 = .ok (.iconst 0, 1) := by decide +kernel
theorem dX0_capitalSigns_95 : decode cX0_capitalSigns 95 = .ok (.istore_n 3, 1) := by decide +kernel
theorem dX0_capitalSigns_96 : decode cX0_capitalSigns 96 = .ok (.iinc 4 1, 3) := by decide +kernel
theorem dX0_capitalSigns_99 : decode cX0_capitalSigns 99 = .ok (.goto (-46), 3) := by decide +kernel
theorem dX0_capitalSigns_102 : decode cX0_capitalSigns 102 = .ok (.iload_n 3, 1) := by decide +kernel
theorem dX0_capitalSigns_103 : decode cX0_capitalSigns 103 = .ok (.ifCond .eq 11, 3) := by decide +kernel
theorem dX0_capitalSigns_106 : decode cX0_capitalSigns 106 = .ok (.iload 4, 2) := by decide +kernel
theorem dX0_capitalSigns_108 : decode cX0_capitalSigns 108 = .ok (.iload_n 2, 1) := by decide +kernel
theorem dX0_capitalSigns_109 : decode cX0_capitalSigns 109 = .ok (.isub, 1) := by decide +kernel
theorem dX0_capitalSigns_110 : decode cX0_capitalSigns 110 = .ok (.iconst 2, 1) := by decide +kernel
theorem dX0_capitalSigns_111 : decode cX0_capitalSigns 111 = .ok (.if_icmp .ge 5, 3) := by decide +kernel
theorem dX0_capitalSigns_114 : decode cX0_capitalSigns 114 = .ok (.iconst 1, 1) := by decide +kernel
theorem dX0_capitalSigns_115 : decode cX0_capitalSigns 115 = .ok (.ireturn, 1) := by decide +kernel
theorem dX0_capitalSigns_116 : decode cX0_capitalSigns 116 = .ok (.iload_n 1, 1) := by decide +kernel
theorem dX0_capitalSigns_117 : decode cX0_capitalSigns 117 = .ok (.iload_n 2, 1) := by decide +kernel
theorem dX0_capitalSigns_118 : decode cX0_capitalSigns 118 = .ok (.if_icmp .ne 7, 3) := by decide +kernel
theorem dX0_capitalSigns_121 : decode cX0_capitalSigns 121 = .ok (.iconst 2, 1) := by decide +kernel
theorem dX0_capitalSigns_122 : decode cX0_capitalSigns 122 = .ok (.goto 4, 3) := by decide +kernel
theorem dX0_capitalSigns_125 : decode cX0_capitalSigns 125 = .ok (.iconst 0, 1) := by decide +kernel
theorem dX0_capitalSigns_126 : decode cX0_capitalSigns 126 = .ok (.ireturn, 1) := by decide +kernel
abbrev mX1_part__ : gM := (yX1_part__, cX1_part__, 2, (Option.none : Option FieldType), [])
theorem caX1_part__ : cal mX1_part__ 1 := ⟨xw 668 (by decide +kernel) rfl, xw 32 (by decide +kernel) rfl, by decide, by decide +kernel⟩
theorem cvX1_part__ : calV mX1_part__ := ⟨xw 666 (by decide +kernel) rfl, xw 667 (by decide +kernel) rfl⟩
abbrev mX0_pointsOf : gM := (yX0_pointsOf, cX0_pointsOf, 1, (Option.some FieldType.int), [])
theorem caX0_pointsOf : cal mX0_pointsOf 1 := ⟨xw 385 (by decide +kernel) rfl, xw 39 (by decide +kernel) rfl, by decide, by decide +kernel⟩
theorem csX0_pointsOf : Cond.static yX0_pointsOf ∈ XW := xw 384 (by decide +kernel) rfl
abbrev mX0_letterOf : gM := (yX0_letterOf, cX0_letterOf, 2, (Option.some FieldType.int), [])
theorem caX0_letterOf : cal mX0_letterOf 1 := ⟨xw 768 (by decide +kernel) rfl, xw 39 (by decide +kernel) rfl, by decide, by decide +kernel⟩
theorem csX0_letterOf : Cond.static yX0_letterOf ∈ XW := xw 767 (by decide +kernel) rfl
abbrev mX0_firstPoints : gM := (yX0_firstPoints, cX0_firstPoints, 1, (Option.some FieldType.int), [])
theorem caX0_firstPoints : cal mX0_firstPoints 1 := ⟨xw 338 (by decide +kernel) rfl, xw 39 (by decide +kernel) rfl, by decide, by decide +kernel⟩
theorem csX0_firstPoints : Cond.static yX0_firstPoints ∈ XW := xw 337 (by decide +kernel) rfl
abbrev mX0_signOf : gM := (yX0_signOf, cX0_signOf, 1, (Option.some FieldType.int), [])
theorem caX0_signOf : cal mX0_signOf 1 := ⟨xw 420 (by decide +kernel) rfl, xw 39 (by decide +kernel) rfl, by decide, by decide +kernel⟩
theorem csX0_signOf : Cond.static yX0_signOf ∈ XW := xw 419 (by decide +kernel) rfl
abbrev mX0_characterOfSign : gM := (yX0_characterOfSign, cX0_characterOfSign, 1, (Option.some FieldType.int), [])
theorem caX0_characterOfSign : cal mX0_characterOfSign 1 := ⟨xw 771 (by decide +kernel) rfl, xw 39 (by decide +kernel) rfl, by decide, by decide +kernel⟩
theorem csX0_characterOfSign : Cond.static yX0_characterOfSign ∈ XW := xw 770 (by decide +kernel) rfl
abbrev mX0_isSmall : gM := (yX0_isSmall, cX0_isSmall, 1, (Option.some FieldType.boolean), [])
theorem caX0_isSmall : cal mX0_isSmall 1 := ⟨xw 408 (by decide +kernel) rfl, xw 39 (by decide +kernel) rfl, by decide, by decide +kernel⟩
theorem csX0_isSmall : Cond.static yX0_isSmall ∈ XW := xw 407 (by decide +kernel) rfl
abbrev mX0_isCapital : gM := (yX0_isCapital, cX0_isCapital, 1, (Option.some FieldType.boolean), [])
theorem caX0_isCapital : cal mX0_isCapital 1 := ⟨xw 411 (by decide +kernel) rfl, xw 39 (by decide +kernel) rfl, by decide, by decide +kernel⟩
theorem csX0_isCapital : Cond.static yX0_isCapital ∈ XW := xw 410 (by decide +kernel) rfl
abbrev mX0_isDigit : gM := (yX0_isDigit, cX0_isDigit, 1, (Option.some FieldType.boolean), [])
theorem caX0_isDigit : cal mX0_isDigit 1 := ⟨xw 405 (by decide +kernel) rfl, xw 39 (by decide +kernel) rfl, by decide, by decide +kernel⟩
theorem csX0_isDigit : Cond.static yX0_isDigit ∈ XW := xw 404 (by decide +kernel) rfl
abbrev mX0_isLetter : gM := (yX0_isLetter, cX0_isLetter, 1, (Option.some FieldType.boolean), [])
theorem caX0_isLetter : cal mX0_isLetter 1 := ⟨xw 417 (by decide +kernel) rfl, xw 39 (by decide +kernel) rfl, by decide, by decide +kernel⟩
theorem csX0_isLetter : Cond.static yX0_isLetter ∈ XW := xw 416 (by decide +kernel) rfl
abbrev mX0_capitalSigns : gM := (yX0_capitalSigns, cX0_capitalSigns, 5, (Option.some FieldType.int), [])
theorem caX0_capitalSigns : cal mX0_capitalSigns 2 := ⟨xw 414 (by decide +kernel) rfl, xw 39 (by decide +kernel) rfl, by decide, by decide +kernel⟩
theorem csX0_capitalSigns : Cond.static yX0_capitalSigns ∈ XW := xw 413 (by decide +kernel) rfl
theorem flX0_9 : Cond.fieldLink RX0 9 RX0 "LETTERS" "[I" ∈ XW := xw 386 (by decide +kernel) rfl
theorem pl_X0 : plainName RX0 = true := by decide +kernel
theorem lkX0_15 : Cond.methodLink RX0 15 yJ0_isEmpty_aae02 ∈ XW := xw 339 (by decide +kernel) rfl
theorem lkX0_21 : Cond.methodLink RX0 21 yJ0_charAt_5068e ∈ XW := xw 343 (by decide +kernel) rfl
theorem lkX0_25 : Cond.methodLink RX0 25 yX0_pointsOf ∈ XW := xw 383 (by decide +kernel) rfl
theorem lkX0_35 : Cond.methodLink RX0 35 yX1_at ∈ XW := xw 399 (by decide +kernel) rfl
theorem lkX0_59 : Cond.methodLink RX0 59 yX0_isLetter ∈ XW := xw 415 (by decide +kernel) rfl
theorem lkX0_49 : Cond.methodLink RX0 49 yX0_isCapital ∈ XW := xw 409 (by decide +kernel) rfl
theorem lkX0_29 : Cond.methodLink RX0 29 yX1_size ∈ XW := xw 395 (by decide +kernel) rfl
/-! BrailleDesk$Codes.part -/
theorem tX1_part__ {G : gG} (a0 : Nat) (a1 : Int32) (h : hp) (Q : hQ) (hF : okB (fX1_part__ a0 a1 h) (pH gU Q)) : gS G mX1_part__ 1 0 0 [sr (some a0), si a1] h Q := by
  delta fX1_part__ at hF
  refine gS_at [some (sr (some a0)), some (si a1)] pl_X1 rfl (Nat.le_of_ble_eq_true rfl) rfl ?_
  refine v_aload_n (pc := 0) (i := 0) dX1_part___0 rfl rfl ?_
  refine s_getI (pc := 1) dX1_part___1 flX1_15 rfl hF (fun x1 hF => ?_)
  refine mg (X := fun q2 => gV G mX1_part__ 1 Q 13 [some (sr (some a0)), some (si a1)] [] (0) (0) q2) hF (fun _ hj3 hF => ?_) (fun q2 hF => ?_)
  · refine v_if_le (pc := 4) 13 dX1_part___4 rfl (fun hc => ?_) (fun hc => ?_)
    · replace hF := (okB_if hF).1 hc
      exact v_lle [some (sr (some a0)), some (si a1)] ⟨rfl, rfl, trivial⟩ (hj3 h (okB_some hF))
    replace hF := (okB_if hF).2 hc
    refine v_aload_n (pc := 7) (i := 0) dX1_part___7 rfl rfl ?_
    refine v_bipush (pc := 8) (v := (32 : Int32)) dX1_part___8 rfl ?_
    refine ch_V (pc := 10) gU (as := [si (32 : Int32)]) (st := []) (ci := 0) (N := mX1_put) (k := 0) (n := 0) (k1 := 0) (n1 := 0) dX1_part___10 lkX1_23 caX1_put cvX1_put rfl (by decide) rfl (fun b Q1 hq => tX1_put b (32 : Int32) h Q1 hq) ⟨by decide, by decide⟩ (Nat.le_of_ble_eq_true rfl) rfl hF (fun x4 h5 hF => ?_)
    show gV G mX1_part__ 1 Q 13 [some (sr (some a0)), some (si a1)] [] (0) (0) h5
    exact v_lle [some (sr (some a0)), some (si a1)] ⟨rfl, rfl, trivial⟩ (hj3 h5 (okB_some hF))
  refine v_iload_n (pc := 13) (i := 1) dX1_part___13 rfl rfl ?_
  refine v_bipush (pc := 14) (v := (10 : Int32)) dX1_part___14 rfl ?_
  refine mg (X := fun q6 => gV G mX1_part__ 1 Q 30 [some (sr (some a0)), some (si a1)] [] (0) (0) q6) hF (fun _ hj7 hF => ?_) (fun q6 hF => ?_)
  · refine v_icmp_lt (pc := 16) 30 dX1_part___16 rfl (fun hc => ?_) (fun hc => ?_)
    · replace hF := (okB_if hF).1 hc
      exact v_lle [some (sr (some a0)), some (si a1)] ⟨rfl, rfl, trivial⟩ (hj7 q2 (okB_some hF))
    replace hF := (okB_if hF).2 hc
    refine v_aload_n (pc := 19) (i := 0) dX1_part___19 rfl rfl ?_
    refine v_bipush (pc := 20) (v := (48 : Int32)) dX1_part___20 rfl ?_
    refine v_iload_n (pc := 22) (i := 1) dX1_part___22 rfl rfl ?_
    refine v_bipush (pc := 23) (v := (10 : Int32)) dX1_part___23 rfl ?_
    refine s_idiv (pc := 25) dX1_part___25 hF (fun hF => ?_)
    refine v_iadd (pc := 26) dX1_part___26 ?_
    refine ch_V (pc := 27) gU (as := [si ((48 : Int32) + (a1 / (10 : Int32)))]) (st := []) (ci := 0) (N := mX1_put) (k := 0) (n := 0) (k1 := 0) (n1 := 0) dX1_part___27 lkX1_23 caX1_put cvX1_put rfl (by decide) rfl (fun b Q1 hq => tX1_put b ((48 : Int32) + (a1 / (10 : Int32))) q2 Q1 hq) ⟨by decide, by decide⟩ (Nat.le_of_ble_eq_true rfl) rfl hF (fun x8 h9 hF => ?_)
    show gV G mX1_part__ 1 Q 30 [some (sr (some a0)), some (si a1)] [] (0) (0) h9
    exact v_lle [some (sr (some a0)), some (si a1)] ⟨rfl, rfl, trivial⟩ (hj7 h9 (okB_some hF))
  refine v_aload_n (pc := 30) (i := 0) dX1_part___30 rfl rfl ?_
  refine v_bipush (pc := 31) (v := (48 : Int32)) dX1_part___31 rfl ?_
  refine v_iload_n (pc := 33) (i := 1) dX1_part___33 rfl rfl ?_
  refine v_bipush (pc := 34) (v := (10 : Int32)) dX1_part___34 rfl ?_
  refine s_irem (pc := 36) dX1_part___36 hF (fun hF => ?_)
  refine v_iadd (pc := 37) dX1_part___37 ?_
  refine ch_V (pc := 38) gU (as := [si ((48 : Int32) + (a1 - a1 / (10 : Int32) * (10 : Int32)))]) (st := []) (ci := 0) (N := mX1_put) (k := 0) (n := 0) (k1 := 0) (n1 := 0) dX1_part___38 lkX1_23 caX1_put cvX1_put rfl (by decide) rfl (fun b Q1 hq => tX1_put b ((48 : Int32) + (a1 - a1 / (10 : Int32) * (10 : Int32))) q6 Q1 hq) ⟨by decide, by decide⟩ (Nat.le_of_ble_eq_true rfl) rfl hF (fun x10 h11 hF => ?_)
  show gV G mX1_part__ 1 Q 41 [some (sr (some a0)), some (si a1)] [] (0) (0) h11
  exact v_ret (pc := 41) dX1_part___41 rfl (okr hF fun q => q)
/-! BrailleDesk$Braille.pointsOf -/
theorem tX0_pointsOf {G : gG} (a0 : Int32) (h : hp) (Q : hQ) (hF : okB (fX0_pointsOf a0) (pP gI Q h)) : gS G mX0_pointsOf 0 0 0 [si a0] h Q := by
  delta fX0_pointsOf at hF
  refine gS_at [some (si a0)] pl_X0 rfl (Nat.le_of_ble_eq_true rfl) rfl ?_
  refine v_iload_n (pc := 0) (i := 0) dX0_pointsOf_0 rfl rfl ?_
  refine v_if_lt (pc := 1) 20 dX0_pointsOf_1 rfl (fun hc => ?_) (fun hc => ?_)
  · replace hF := (okB_if hF).1 hc
    refine v_iconst (pc := 20) (v := (0 : Int32)) dX0_pointsOf_20 rfl ?_
    exact v_iret (pc := 21) dX0_pointsOf_21 rfl rfl (okr hF fun q => q)
  replace hF := (okB_if hF).2 hc
  refine v_iload_n (pc := 4) (i := 0) dX0_pointsOf_4 rfl rfl ?_
  refine v_lettR (pc := 5) dX0_pointsOf_5 flX0_9 ?_
  refine v_lettL (pc := 8) dX0_pointsOf_8 ?_
  refine v_icmp_ge (pc := 9) 20 dX0_pointsOf_9 rfl (fun hc => ?_) (fun hc => ?_)
  · replace hF := (okB_if hF).1 hc
    refine v_iconst (pc := 20) (v := (0 : Int32)) dX0_pointsOf_20 rfl ?_
    exact v_iret (pc := 21) dX0_pointsOf_21 rfl rfl (okr hF fun q => q)
  replace hF := (okB_if hF).2 hc
  refine v_lettR (pc := 12) dX0_pointsOf_12 flX0_9 ?_
  refine v_iload_n (pc := 15) (i := 0) dX0_pointsOf_15 rfl rfl ?_
  refine s_lett (pc := 16) dX0_pointsOf_16 hF (fun x1 hF => ?_)
  refine v_goto (pc := 17) 21 dX0_pointsOf_17 rfl ?_
  exact v_iret (pc := 21) dX0_pointsOf_21 rfl rfl (okr hF fun q => q)
/-! BrailleDesk$Braille.letterOf -/
theorem lX0_letterOf_2 {G : gG} {Q : hQ} {P : (Int32 ⊕ Unit) → Prop} {k n : Nat} {h : hp} (c0 : Int32) (hJ : ∀ q : Unit, P (.inr q) → gV G mX0_letterOf 0 Q 27 [none, none] [] (k) (n) h) (hR : ∀ r : Int32, P (.inl (r)) → (pP gI Q h) r) : ∀ (fu : Nat) (a : Int32), okB (itr (fX0_letterOf_B2 c0) fu a) P → gV G mX0_letterOf 0 Q 2 [some (si c0), some (si a)] [] (k) (n) h :=
  lpg (X := fun (a : Int32) => gV G mX0_letterOf 0 Q 2 [some (si c0), some (si a)] [] (k) (n) h) (fun a P2 hL hE hF => by
    delta fX0_letterOf_B2 at hF
    refine v_iload_n (pc := 2) (i := 1) dX0_letterOf_2 rfl rfl ?_
    refine v_lettR (pc := 3) dX0_letterOf_3 flX0_9 ?_
    refine v_lettL (pc := 6) dX0_letterOf_6 ?_
    refine v_icmp_ge (pc := 7) 27 dX0_letterOf_7 rfl (fun hc => ?_) (fun hc => ?_)
    · replace hF := (okB_if hF).1 hc
      exact v_lle [none, none] trivial (hJ () (hE _ (okB_some hF)))
    replace hF := (okB_if hF).2 hc
    refine v_lettR (pc := 10) dX0_letterOf_10 flX0_9 ?_
    refine v_iload_n (pc := 13) (i := 1) dX0_letterOf_13 rfl rfl ?_
    refine s_lett (pc := 14) dX0_letterOf_14 hF (fun x1 hF => ?_)
    refine v_iload_n (pc := 15) (i := 0) dX0_letterOf_15 rfl rfl ?_
    refine v_icmp_ne (pc := 16) 21 dX0_letterOf_16 rfl (fun hc => ?_) (fun hc => ?_)
    · replace hF := (okB_if hF).2 hc
      refine v_iinc (pc := 21) (i := 1) (a + (1 : Int32)) [some (si c0), some (si (a + (1 : Int32)))] dX0_letterOf_21 rfl rfl rfl rfl ?_
      refine v_goto (pc := 24) 2 dX0_letterOf_24 rfl ?_
      exact v_lle [some (si c0), some (si (a + (1 : Int32)))] ⟨rfl, rfl, trivial⟩ (hL (a + (1 : Int32)) (okB_some hF))
    replace hF := (okB_if hF).1 hc
    refine v_iload_n (pc := 19) (i := 1) dX0_letterOf_19 rfl rfl ?_
    exact v_iret (pc := 20) dX0_letterOf_20 rfl rfl (hR _ (hE _ (okB_some hF))))
theorem tX0_letterOf {G : gG} (a0 : Int32) (h : hp) (Q : hQ) (hF : okB (fX0_letterOf a0) (pP gI Q h)) : gS G mX0_letterOf 0 0 0 [si a0] h Q := by
  delta fX0_letterOf at hF
  refine gS_at [some (si a0), none] pl_X0 rfl (Nat.le_of_ble_eq_true rfl) rfl ?_
  refine v_iconst (pc := 0) (v := (0 : Int32)) dX0_letterOf_0 rfl ?_
  refine v_istore_n (pc := 1) (i := 1) [some (si a0), some (si (0 : Int32))] dX0_letterOf_1 rfl (by decide) rfl rfl ?_
  refine mgR (X := fun q1 => gV G mX0_letterOf 0 Q 27 [none, none] [] (0) (0) h) hF (fun _ hj2 hr2 hF => v_lle [some (si a0), some (si (0 : Int32))] ⟨rfl, rfl, trivial⟩ (lX0_letterOf_2 a0 hj2 (fun _ hp => (hr2 _ hp)) FU (0 : Int32) hF)) (fun q1 hF => ?_)
  refine v_iconst (pc := 27) (v := (-1 : Int32)) dX0_letterOf_27 rfl ?_
  exact v_iret (pc := 28) dX0_letterOf_28 rfl rfl (okr hF fun q => q)
/-! BrailleDesk$Braille.firstPoints -/
theorem tX0_firstPoints {G : gG} (a0 : Nat) (h : hp) (Q : hQ) (hF : okB (fX0_firstPoints a0) (pP gI Q h)) : gS G mX0_firstPoints 4 0 0 [sr (some (ga G a0))] h Q := by
  delta fX0_firstPoints at hF
  refine gS_at [some (sr (some (ga G a0)))] pl_X0 rfl (Nat.le_of_ble_eq_true rfl) rfl ?_
  refine v_aload_n (pc := 0) (i := 0) dX0_firstPoints_0 rfl rfl ?_
  refine cp_T (pc := 1) gI (as := []) (st := []) (i := a0) (N := mJ0_isEmpty_aae02) (k := 0) (n := 0) (k1 := 0) (n1 := 0) dX0_firstPoints_1 lkX0_15 caJ0_isEmpty_aae02 cvJ0_isEmpty_aae02 rfl rfl (fun Q1 hq => tJ0_isEmpty_aae02 a0 h Q1 hq) ⟨by decide, by decide⟩ (Nat.le_of_ble_eq_true rfl) rfl hF (fun x1 hF => ?_)
  show gV G mX0_firstPoints 4 Q 4 [some (sr (some (ga G a0)))] [si x1] (0) (0) h
  refine v_if_eq (pc := 4) 11 dX0_firstPoints_4 rfl (fun hc => ?_) (fun hc => ?_)
  · replace hF := (okB_if hF).1 hc
    refine v_aload_n (pc := 11) (i := 0) dX0_firstPoints_11 rfl rfl ?_
    refine v_iconst (pc := 12) (v := (0 : Int32)) dX0_firstPoints_12 rfl ?_
    refine cp_T (pc := 13) gI (as := [si (0 : Int32)]) (st := []) (i := a0) (N := mJ0_charAt_5068e) (k := 0) (n := 0) (k1 := 0) (n1 := 0) dX0_firstPoints_13 lkX0_21 caJ0_charAt_5068e cvJ0_charAt_5068e rfl rfl (fun Q1 hq => tJ0_charAt_5068e a0 (0 : Int32) h Q1 hq) ⟨by decide, by decide⟩ (Nat.le_of_ble_eq_true rfl) rfl hF (fun x2 hF => ?_)
    show gV G mX0_firstPoints 4 Q 16 [some (sr (some (ga G a0)))] [si x2] (0) (0) h
    refine v_bipush (pc := 16) (v := (97 : Int32)) dX0_firstPoints_16 rfl ?_
    refine v_isub (pc := 18) dX0_firstPoints_18 ?_
    refine cp_S (pc := 19) gI (as := [si (x2 - (97 : Int32))]) (st := []) (N := mX0_pointsOf) (k := 0) (n := 0) (k1 := 0) (n1 := 0) dX0_firstPoints_19 lkX0_25 caX0_pointsOf csX0_pointsOf rfl (fun Q1 hq => tX0_pointsOf (x2 - (97 : Int32)) h Q1 hq) ⟨by decide, by decide⟩ (Nat.le_of_ble_eq_true rfl) rfl hF (fun x3 hF => ?_)
    show gV G mX0_firstPoints 4 Q 22 [some (sr (some (ga G a0)))] [si x3] (0) (0) h
    exact v_iret (pc := 22) dX0_firstPoints_22 rfl rfl (okr hF fun q => q)
  replace hF := (okB_if hF).2 hc
  refine v_iconst (pc := 7) (v := (0 : Int32)) dX0_firstPoints_7 rfl ?_
  refine v_goto (pc := 8) 22 dX0_firstPoints_8 rfl ?_
  exact v_iret (pc := 22) dX0_firstPoints_22 rfl rfl (okr hF fun q => q)
/-! BrailleDesk$Braille.signOf -/
theorem tX0_signOf {G : gG} (a0 : Int32) (h : hp) (Q : hQ) (hF : okB (fX0_signOf a0) (pP gI Q h)) : gS G mX0_signOf 0 0 0 [si a0] h Q := by
  delta fX0_signOf at hF
  refine gS_at [some (si a0)] pl_X0 rfl (Nat.le_of_ble_eq_true rfl) rfl ?_
  refine v_iload_n (pc := 0) (i := 0) dX0_signOf_0 rfl rfl ?_
  by_cases hc32 : a0 = (32 : Int32)
  · replace hF := (okB_if hF).1 hc32
    refine v_lookup (pc := 1) 52 dX0_signOf_1 (by decide) (by rw [hc32]; first | done | decide) rfl ?_
    refine v_iconst (pc := 52) (v := (0 : Int32)) dX0_signOf_52 rfl ?_
    exact v_iret (pc := 53) dX0_signOf_53 rfl rfl (okr hF fun q => q)
  replace hF := (okB_if hF).2 hc32
  by_cases hc44 : a0 = (44 : Int32)
  · replace hF := (okB_if hF).1 hc44
    refine v_lookup (pc := 1) 57 dX0_signOf_1 (by decide) (by rw [hc44]; first | done | decide) rfl ?_
    refine v_iconst (pc := 57) (v := (2 : Int32)) dX0_signOf_57 rfl ?_
    exact v_iret (pc := 58) dX0_signOf_58 rfl rfl (okr hF fun q => q)
  replace hF := (okB_if hF).2 hc44
  by_cases hc45 : a0 = (45 : Int32)
  · replace hF := (okB_if hF).1 hc45
    refine v_lookup (pc := 1) 62 dX0_signOf_1 (by decide) (by rw [hc45]; first | done | decide) rfl ?_
    refine v_bipush (pc := 62) (v := (36 : Int32)) dX0_signOf_62 rfl ?_
    exact v_iret (pc := 64) dX0_signOf_64 rfl rfl (okr hF fun q => q)
  replace hF := (okB_if hF).2 hc45
  by_cases hc46 : a0 = (46 : Int32)
  · replace hF := (okB_if hF).1 hc46
    refine v_lookup (pc := 1) 54 dX0_signOf_1 (by decide) (by rw [hc46]; first | done | decide) rfl ?_
    refine v_bipush (pc := 54) (v := (50 : Int32)) dX0_signOf_54 rfl ?_
    exact v_iret (pc := 56) dX0_signOf_56 rfl rfl (okr hF fun q => q)
  replace hF := (okB_if hF).2 hc46
  by_cases hc63 : a0 = (63 : Int32)
  · replace hF := (okB_if hF).1 hc63
    refine v_lookup (pc := 1) 59 dX0_signOf_1 (by decide) (by rw [hc63]; first | done | decide) rfl ?_
    refine v_bipush (pc := 59) (v := (38 : Int32)) dX0_signOf_59 rfl ?_
    exact v_iret (pc := 61) dX0_signOf_61 rfl rfl (okr hF fun q => q)
  replace hF := (okB_if hF).2 hc63
  refine v_lookup (pc := 1) 65 dX0_signOf_1 (by decide) (look_d (fun p hp => ?_)) rfl ?_
  · rcases List.mem_cons.mp hp with rfl | hp
    · exact ne_toInt (k := (32 : Int32)) (by decide) hc32
    rcases List.mem_cons.mp hp with rfl | hp
    · exact ne_toInt (k := (44 : Int32)) (by decide) hc44
    rcases List.mem_cons.mp hp with rfl | hp
    · exact ne_toInt (k := (45 : Int32)) (by decide) hc45
    rcases List.mem_cons.mp hp with rfl | hp
    · exact ne_toInt (k := (46 : Int32)) (by decide) hc46
    rcases List.mem_cons.mp hp with rfl | hp
    · exact ne_toInt (k := (63 : Int32)) (by decide) hc63
    cases hp
  refine v_bipush (pc := 65) (v := (63 : Int32)) dX0_signOf_65 rfl ?_
  exact v_iret (pc := 67) dX0_signOf_67 rfl rfl (okr hF fun q => q)
/-! BrailleDesk$Braille.characterOfSign -/
theorem tX0_characterOfSign {G : gG} (a0 : Int32) (h : hp) (Q : hQ) (hF : okB (fX0_characterOfSign a0) (pP gI Q h)) : gS G mX0_characterOfSign 0 0 0 [si a0] h Q := by
  delta fX0_characterOfSign at hF
  refine gS_at [some (si a0)] pl_X0 rfl (Nat.le_of_ble_eq_true rfl) rfl ?_
  refine v_iload_n (pc := 0) (i := 0) dX0_characterOfSign_0 rfl rfl ?_
  by_cases hc2 : a0 = (2 : Int32)
  · replace hF := (okB_if hF).1 hc2
    refine v_lookup (pc := 1) 47 dX0_characterOfSign_1 (by decide) (by rw [hc2]; first | done | decide) rfl ?_
    refine v_bipush (pc := 47) (v := (44 : Int32)) dX0_characterOfSign_47 rfl ?_
    exact v_iret (pc := 49) dX0_characterOfSign_49 rfl rfl (okr hF fun q => q)
  replace hF := (okB_if hF).2 hc2
  by_cases hc36 : a0 = (36 : Int32)
  · replace hF := (okB_if hF).1 hc36
    refine v_lookup (pc := 1) 53 dX0_characterOfSign_1 (by decide) (by rw [hc36]; first | done | decide) rfl ?_
    refine v_bipush (pc := 53) (v := (45 : Int32)) dX0_characterOfSign_53 rfl ?_
    exact v_iret (pc := 55) dX0_characterOfSign_55 rfl rfl (okr hF fun q => q)
  replace hF := (okB_if hF).2 hc36
  by_cases hc38 : a0 = (38 : Int32)
  · replace hF := (okB_if hF).1 hc38
    refine v_lookup (pc := 1) 50 dX0_characterOfSign_1 (by decide) (by rw [hc38]; first | done | decide) rfl ?_
    refine v_bipush (pc := 50) (v := (63 : Int32)) dX0_characterOfSign_50 rfl ?_
    exact v_iret (pc := 52) dX0_characterOfSign_52 rfl rfl (okr hF fun q => q)
  replace hF := (okB_if hF).2 hc38
  by_cases hc50 : a0 = (50 : Int32)
  · replace hF := (okB_if hF).1 hc50
    refine v_lookup (pc := 1) 44 dX0_characterOfSign_1 (by decide) (by rw [hc50]; first | done | decide) rfl ?_
    refine v_bipush (pc := 44) (v := (46 : Int32)) dX0_characterOfSign_44 rfl ?_
    exact v_iret (pc := 46) dX0_characterOfSign_46 rfl rfl (okr hF fun q => q)
  replace hF := (okB_if hF).2 hc50
  refine v_lookup (pc := 1) 56 dX0_characterOfSign_1 (by decide) (look_d (fun p hp => ?_)) rfl ?_
  · rcases List.mem_cons.mp hp with rfl | hp
    · exact ne_toInt (k := (2 : Int32)) (by decide) hc2
    rcases List.mem_cons.mp hp with rfl | hp
    · exact ne_toInt (k := (36 : Int32)) (by decide) hc36
    rcases List.mem_cons.mp hp with rfl | hp
    · exact ne_toInt (k := (38 : Int32)) (by decide) hc38
    rcases List.mem_cons.mp hp with rfl | hp
    · exact ne_toInt (k := (50 : Int32)) (by decide) hc50
    cases hp
  refine v_iconst (pc := 56) (v := (-1 : Int32)) dX0_characterOfSign_56 rfl ?_
  exact v_iret (pc := 57) dX0_characterOfSign_57 rfl rfl (okr hF fun q => q)
/-! BrailleDesk$Braille.isSmall -/
theorem tX0_isSmall {G : gG} (a0 : Int32) (h : hp) (Q : hQ) (hF : okB (fX0_isSmall a0) (pP gI Q h)) : gS G mX0_isSmall 0 0 0 [si a0] h Q := by
  delta fX0_isSmall at hF
  refine gS_at [some (si a0)] pl_X0 rfl (Nat.le_of_ble_eq_true rfl) rfl ?_
  refine v_iload_n (pc := 0) (i := 0) dX0_isSmall_0 rfl rfl ?_
  refine v_bipush (pc := 1) (v := (97 : Int32)) dX0_isSmall_1 rfl ?_
  refine v_icmp_lt (pc := 3) 16 dX0_isSmall_3 rfl (fun hc => ?_) (fun hc => ?_)
  · replace hF := (okB_if hF).1 hc
    refine v_iconst (pc := 16) (v := (0 : Int32)) dX0_isSmall_16 rfl ?_
    exact v_iret (pc := 17) dX0_isSmall_17 rfl rfl (okr hF fun q => q)
  replace hF := (okB_if hF).2 hc
  refine v_iload_n (pc := 6) (i := 0) dX0_isSmall_6 rfl rfl ?_
  refine v_bipush (pc := 7) (v := (122 : Int32)) dX0_isSmall_7 rfl ?_
  refine v_icmp_gt (pc := 9) 16 dX0_isSmall_9 rfl (fun hc => ?_) (fun hc => ?_)
  · replace hF := (okB_if hF).1 hc
    refine v_iconst (pc := 16) (v := (0 : Int32)) dX0_isSmall_16 rfl ?_
    exact v_iret (pc := 17) dX0_isSmall_17 rfl rfl (okr hF fun q => q)
  replace hF := (okB_if hF).2 hc
  refine v_iconst (pc := 12) (v := (1 : Int32)) dX0_isSmall_12 rfl ?_
  refine v_goto (pc := 13) 17 dX0_isSmall_13 rfl ?_
  exact v_iret (pc := 17) dX0_isSmall_17 rfl rfl (okr hF fun q => q)
/-! BrailleDesk$Braille.isCapital -/
theorem tX0_isCapital {G : gG} (a0 : Int32) (h : hp) (Q : hQ) (hF : okB (fX0_isCapital a0) (pP gI Q h)) : gS G mX0_isCapital 0 0 0 [si a0] h Q := by
  delta fX0_isCapital at hF
  refine gS_at [some (si a0)] pl_X0 rfl (Nat.le_of_ble_eq_true rfl) rfl ?_
  refine v_iload_n (pc := 0) (i := 0) dX0_isCapital_0 rfl rfl ?_
  refine v_bipush (pc := 1) (v := (65 : Int32)) dX0_isCapital_1 rfl ?_
  refine v_icmp_lt (pc := 3) 16 dX0_isCapital_3 rfl (fun hc => ?_) (fun hc => ?_)
  · replace hF := (okB_if hF).1 hc
    refine v_iconst (pc := 16) (v := (0 : Int32)) dX0_isCapital_16 rfl ?_
    exact v_iret (pc := 17) dX0_isCapital_17 rfl rfl (okr hF fun q => q)
  replace hF := (okB_if hF).2 hc
  refine v_iload_n (pc := 6) (i := 0) dX0_isCapital_6 rfl rfl ?_
  refine v_bipush (pc := 7) (v := (90 : Int32)) dX0_isCapital_7 rfl ?_
  refine v_icmp_gt (pc := 9) 16 dX0_isCapital_9 rfl (fun hc => ?_) (fun hc => ?_)
  · replace hF := (okB_if hF).1 hc
    refine v_iconst (pc := 16) (v := (0 : Int32)) dX0_isCapital_16 rfl ?_
    exact v_iret (pc := 17) dX0_isCapital_17 rfl rfl (okr hF fun q => q)
  replace hF := (okB_if hF).2 hc
  refine v_iconst (pc := 12) (v := (1 : Int32)) dX0_isCapital_12 rfl ?_
  refine v_goto (pc := 13) 17 dX0_isCapital_13 rfl ?_
  exact v_iret (pc := 17) dX0_isCapital_17 rfl rfl (okr hF fun q => q)
/-! BrailleDesk$Braille.isDigit -/
theorem tX0_isDigit {G : gG} (a0 : Int32) (h : hp) (Q : hQ) (hF : okB (fX0_isDigit a0) (pP gI Q h)) : gS G mX0_isDigit 0 0 0 [si a0] h Q := by
  delta fX0_isDigit at hF
  refine gS_at [some (si a0)] pl_X0 rfl (Nat.le_of_ble_eq_true rfl) rfl ?_
  refine v_iload_n (pc := 0) (i := 0) dX0_isDigit_0 rfl rfl ?_
  refine v_bipush (pc := 1) (v := (48 : Int32)) dX0_isDigit_1 rfl ?_
  refine v_icmp_lt (pc := 3) 16 dX0_isDigit_3 rfl (fun hc => ?_) (fun hc => ?_)
  · replace hF := (okB_if hF).1 hc
    refine v_iconst (pc := 16) (v := (0 : Int32)) dX0_isDigit_16 rfl ?_
    exact v_iret (pc := 17) dX0_isDigit_17 rfl rfl (okr hF fun q => q)
  replace hF := (okB_if hF).2 hc
  refine v_iload_n (pc := 6) (i := 0) dX0_isDigit_6 rfl rfl ?_
  refine v_bipush (pc := 7) (v := (57 : Int32)) dX0_isDigit_7 rfl ?_
  refine v_icmp_gt (pc := 9) 16 dX0_isDigit_9 rfl (fun hc => ?_) (fun hc => ?_)
  · replace hF := (okB_if hF).1 hc
    refine v_iconst (pc := 16) (v := (0 : Int32)) dX0_isDigit_16 rfl ?_
    exact v_iret (pc := 17) dX0_isDigit_17 rfl rfl (okr hF fun q => q)
  replace hF := (okB_if hF).2 hc
  refine v_iconst (pc := 12) (v := (1 : Int32)) dX0_isDigit_12 rfl ?_
  refine v_goto (pc := 13) 17 dX0_isDigit_13 rfl ?_
  exact v_iret (pc := 17) dX0_isDigit_17 rfl rfl (okr hF fun q => q)
/-! BrailleDesk$Braille.isLetter -/
theorem tX0_isLetter {G : gG} (a0 : Int32) (h : hp) (Q : hQ) (hF : okB (fX0_isLetter a0) (pP gI Q h)) : gS G mX0_isLetter 0 0 0 [si a0] h Q := by
  delta fX0_isLetter at hF
  refine gS_at [some (si a0)] pl_X0 rfl (Nat.le_of_ble_eq_true rfl) rfl ?_
  refine v_iload_n (pc := 0) (i := 0) dX0_isLetter_0 rfl rfl ?_
  refine v_bipush (pc := 1) (v := (97 : Int32)) dX0_isLetter_1 rfl ?_
  refine v_icmp_lt (pc := 3) 12 dX0_isLetter_3 rfl (fun hc => ?_) (fun hc => ?_)
  · replace hF := (okB_if hF).1 hc
    refine v_iload_n (pc := 12) (i := 0) dX0_isLetter_12 rfl rfl ?_
    refine v_bipush (pc := 13) (v := (65 : Int32)) dX0_isLetter_13 rfl ?_
    refine v_icmp_lt (pc := 15) 28 dX0_isLetter_15 rfl (fun hc => ?_) (fun hc => ?_)
    · replace hF := (okB_if hF).1 hc
      refine v_iconst (pc := 28) (v := (0 : Int32)) dX0_isLetter_28 rfl ?_
      exact v_iret (pc := 29) dX0_isLetter_29 rfl rfl (okr hF fun q => q)
    replace hF := (okB_if hF).2 hc
    refine v_iload_n (pc := 18) (i := 0) dX0_isLetter_18 rfl rfl ?_
    refine v_bipush (pc := 19) (v := (90 : Int32)) dX0_isLetter_19 rfl ?_
    refine v_icmp_gt (pc := 21) 28 dX0_isLetter_21 rfl (fun hc => ?_) (fun hc => ?_)
    · replace hF := (okB_if hF).1 hc
      refine v_iconst (pc := 28) (v := (0 : Int32)) dX0_isLetter_28 rfl ?_
      exact v_iret (pc := 29) dX0_isLetter_29 rfl rfl (okr hF fun q => q)
    replace hF := (okB_if hF).2 hc
    refine v_iconst (pc := 24) (v := (1 : Int32)) dX0_isLetter_24 rfl ?_
    refine v_goto (pc := 25) 29 dX0_isLetter_25 rfl ?_
    exact v_iret (pc := 29) dX0_isLetter_29 rfl rfl (okr hF fun q => q)
  replace hF := (okB_if hF).2 hc
  refine v_iload_n (pc := 6) (i := 0) dX0_isLetter_6 rfl rfl ?_
  refine v_bipush (pc := 7) (v := (122 : Int32)) dX0_isLetter_7 rfl ?_
  refine v_icmp_le (pc := 9) 24 dX0_isLetter_9 rfl (fun hc => ?_) (fun hc => ?_)
  · replace hF := (okB_if hF).1 hc
    refine v_iconst (pc := 24) (v := (1 : Int32)) dX0_isLetter_24 rfl ?_
    refine v_goto (pc := 25) 29 dX0_isLetter_25 rfl ?_
    exact v_iret (pc := 29) dX0_isLetter_29 rfl rfl (okr hF fun q => q)
  replace hF := (okB_if hF).2 hc
  refine v_iload_n (pc := 12) (i := 0) dX0_isLetter_12 rfl rfl ?_
  refine v_bipush (pc := 13) (v := (65 : Int32)) dX0_isLetter_13 rfl ?_
  refine v_icmp_lt (pc := 15) 28 dX0_isLetter_15 rfl (fun hc => ?_) (fun hc => ?_)
  · replace hF := (okB_if hF).1 hc
    refine v_iconst (pc := 28) (v := (0 : Int32)) dX0_isLetter_28 rfl ?_
    exact v_iret (pc := 29) dX0_isLetter_29 rfl rfl (okr hF fun q => q)
  replace hF := (okB_if hF).2 hc
  refine v_iload_n (pc := 18) (i := 0) dX0_isLetter_18 rfl rfl ?_
  refine v_bipush (pc := 19) (v := (90 : Int32)) dX0_isLetter_19 rfl ?_
  refine v_icmp_gt (pc := 21) 28 dX0_isLetter_21 rfl (fun hc => ?_) (fun hc => ?_)
  · replace hF := (okB_if hF).1 hc
    refine v_iconst (pc := 28) (v := (0 : Int32)) dX0_isLetter_28 rfl ?_
    exact v_iret (pc := 29) dX0_isLetter_29 rfl rfl (okr hF fun q => q)
  replace hF := (okB_if hF).2 hc
  refine v_iconst (pc := 24) (v := (1 : Int32)) dX0_isLetter_24 rfl ?_
  refine v_goto (pc := 25) 29 dX0_isLetter_25 rfl ?_
  exact v_iret (pc := 29) dX0_isLetter_29 rfl rfl (okr hF fun q => q)
/-! BrailleDesk$Braille.capitalSigns -/
theorem lX0_capitalSigns_4 {G : gG} {Q : hQ} {P : (Int32 × Int32) → Prop} {k n : Nat} (c0 : (Option Nat)) (c1 : Int32) (h : hp) (hJ : ∀ q : (Int32 × Int32), P q → gV G mX0_capitalSigns 1 Q 48 [some (sr c0), some (si c1), some (si q.1), some (si q.2), none] [] (k) (n) h) : ∀ (fu : Nat) (a : (Int32 × Int32)), okB (itr (fX0_capitalSigns_B4 c0 c1 h) fu a) P → gV G mX0_capitalSigns 1 Q 4 [some (sr c0), some (si c1), some (si a.1), some (si a.2), none] [] (k) (n) h :=
  lpg (X := fun (a : (Int32 × Int32)) => gV G mX0_capitalSigns 1 Q 4 [some (sr c0), some (si c1), some (si a.1), some (si a.2), none] [] (k) (n) h) (fun a P2 hL hE hF => by
    delta fX0_capitalSigns_B4 at hF
    refine v_iload_n (pc := 4) (i := 2) dX0_capitalSigns_4 rfl rfl ?_
    refine v_if_le (pc := 5) 48 dX0_capitalSigns_5 rfl (fun hc => ?_) (fun hc => ?_)
    · replace hF := (okB_if hF).1 hc
      exact v_lle [some (sr c0), some (si c1), some (si a.1), some (si a.2), none] ⟨rfl, rfl, rfl, rfl, trivial⟩ (hJ (a.1, a.2) (hE _ (okB_some hF)))
    replace hF := (okB_if hF).2 hc
    refine v_aload_n (pc := 8) (i := 0) dX0_capitalSigns_8 rfl rfl ?_
    refine v_iload_n (pc := 9) (i := 2) dX0_capitalSigns_9 rfl rfl ?_
    refine v_iconst (pc := 10) (v := (1 : Int32)) dX0_capitalSigns_10 rfl ?_
    refine v_isub (pc := 11) dX0_capitalSigns_11 ?_
    refine cp_V (pc := 12) gI (as := [si (a.1 - (1 : Int32))]) (st := []) (ci := 0) (N := mX1_at) (k := k) (n := n) (k1 := 0) (n1 := 0) dX0_capitalSigns_12 lkX0_35 caX1_at cvX1_at rfl (by decide) rfl (fun b Q1 hq => tX1_at b (a.1 - (1 : Int32)) h Q1 hq) ⟨by decide, by decide⟩ (Nat.le_of_ble_eq_true rfl) rfl hF (fun x1 hF => ?_)
    show gV G mX0_capitalSigns 1 Q 15 [some (sr c0), some (si c1), some (si a.1), some (si a.2), none] [si x1] (k) (n) h
    refine cp_S (pc := 15) gI (as := [si x1]) (st := []) (N := mX0_isLetter) (k := k) (n := n) (k1 := 0) (n1 := 0) dX0_capitalSigns_15 lkX0_59 caX0_isLetter csX0_isLetter rfl (fun Q1 hq => tX0_isLetter x1 h Q1 hq) ⟨by decide, by decide⟩ (Nat.le_of_ble_eq_true rfl) rfl hF (fun x2 hF => ?_)
    show gV G mX0_capitalSigns 1 Q 18 [some (sr c0), some (si c1), some (si a.1), some (si a.2), none] [si x2] (k) (n) h
    refine v_if_eq (pc := 18) 48 dX0_capitalSigns_18 rfl (fun hc => ?_) (fun hc => ?_)
    · replace hF := (okB_if hF).1 hc
      exact v_lle [some (sr c0), some (si c1), some (si a.1), some (si a.2), none] ⟨rfl, rfl, rfl, rfl, trivial⟩ (hJ (a.1, a.2) (hE _ (okB_some hF)))
    replace hF := (okB_if hF).2 hc
    refine v_iinc (pc := 21) (i := 2) (a.1 + (-1 : Int32)) [some (sr c0), some (si c1), some (si (a.1 + (-1 : Int32))), some (si a.2), none] dX0_capitalSigns_21 rfl rfl rfl rfl ?_
    refine v_iload_n (pc := 24) (i := 3) dX0_capitalSigns_24 rfl rfl ?_
    refine v_if_eq (pc := 25) 43 dX0_capitalSigns_25 rfl (fun hc => ?_) (fun hc => ?_)
    · replace hF := (okB_if hF).1 hc
      refine v_iconst (pc := 43) (v := (0 : Int32)) dX0_capitalSigns_43 rfl ?_
      refine v_istore_n (pc := 44) (i := 3) [some (sr c0), some (si c1), some (si (a.1 + (-1 : Int32))), some (si (0 : Int32)), none] dX0_capitalSigns_44 rfl (by decide) rfl rfl ?_
      refine v_goto (pc := 45) 4 dX0_capitalSigns_45 rfl ?_
      exact v_lle [some (sr c0), some (si c1), some (si (a.1 + (-1 : Int32))), some (si (0 : Int32)), none] ⟨rfl, rfl, rfl, rfl, trivial⟩ (hL (a.1 + (-1 : Int32), (0 : Int32)) (okB_some hF))
    replace hF := (okB_if hF).2 hc
    refine v_aload_n (pc := 28) (i := 0) dX0_capitalSigns_28 rfl rfl ?_
    refine v_iload_n (pc := 29) (i := 2) dX0_capitalSigns_29 rfl rfl ?_
    refine cp_V (pc := 30) gI (as := [si (a.1 + (-1 : Int32))]) (st := []) (ci := 0) (N := mX1_at) (k := k) (n := n) (k1 := 0) (n1 := 0) dX0_capitalSigns_30 lkX0_35 caX1_at cvX1_at rfl (by decide) rfl (fun b Q1 hq => tX1_at b (a.1 + (-1 : Int32)) h Q1 hq) ⟨by decide, by decide⟩ (Nat.le_of_ble_eq_true rfl) rfl hF (fun x3 hF => ?_)
    show gV G mX0_capitalSigns 1 Q 33 [some (sr c0), some (si c1), some (si (a.1 + (-1 : Int32))), some (si a.2), none] [si x3] (k) (n) h
    refine cp_S (pc := 33) gI (as := [si x3]) (st := []) (N := mX0_isCapital) (k := k) (n := n) (k1 := 0) (n1 := 0) dX0_capitalSigns_33 lkX0_49 caX0_isCapital csX0_isCapital rfl (fun Q1 hq => tX0_isCapital x3 h Q1 hq) ⟨by decide, by decide⟩ (Nat.le_of_ble_eq_true rfl) rfl hF (fun x4 hF => ?_)
    show gV G mX0_capitalSigns 1 Q 36 [some (sr c0), some (si c1), some (si (a.1 + (-1 : Int32))), some (si a.2), none] [si x4] (k) (n) h
    refine v_if_eq (pc := 36) 43 dX0_capitalSigns_36 rfl (fun hc => ?_) (fun hc => ?_)
    · replace hF := (okB_if hF).1 hc
      refine v_iconst (pc := 43) (v := (0 : Int32)) dX0_capitalSigns_43 rfl ?_
      refine v_istore_n (pc := 44) (i := 3) [some (sr c0), some (si c1), some (si (a.1 + (-1 : Int32))), some (si (0 : Int32)), none] dX0_capitalSigns_44 rfl (by decide) rfl rfl ?_
      refine v_goto (pc := 45) 4 dX0_capitalSigns_45 rfl ?_
      exact v_lle [some (sr c0), some (si c1), some (si (a.1 + (-1 : Int32))), some (si (0 : Int32)), none] ⟨rfl, rfl, rfl, rfl, trivial⟩ (hL (a.1 + (-1 : Int32), (0 : Int32)) (okB_some hF))
    replace hF := (okB_if hF).2 hc
    refine v_iconst (pc := 39) (v := (1 : Int32)) dX0_capitalSigns_39 rfl ?_
    refine v_goto (pc := 40) 44 dX0_capitalSigns_40 rfl ?_
    refine v_istore_n (pc := 44) (i := 3) [some (sr c0), some (si c1), some (si (a.1 + (-1 : Int32))), some (si (1 : Int32)), none] dX0_capitalSigns_44 rfl (by decide) rfl rfl ?_
    refine v_goto (pc := 45) 4 dX0_capitalSigns_45 rfl ?_
    exact v_lle [some (sr c0), some (si c1), some (si (a.1 + (-1 : Int32))), some (si (1 : Int32)), none] ⟨rfl, rfl, rfl, rfl, trivial⟩ (hL (a.1 + (-1 : Int32), (1 : Int32)) (okB_some hF)))
theorem lX0_capitalSigns_53 {G : gG} {Q : hQ} {P : (Int32 × Int32) → Prop} {k n : Nat} (c0 : (Option Nat)) (c1 : Int32) (c2 : Int32) (h : hp) (hJ : ∀ q : (Int32 × Int32), P q → gV G mX0_capitalSigns 1 Q 102 [none, some (si c1), some (si c2), some (si q.1), some (si q.2)] [] (k) (n) h) : ∀ (fu : Nat) (a : (Int32 × Int32)), okB (itr (fX0_capitalSigns_B53 c0 c1 c2 h) fu a) P → gV G mX0_capitalSigns 1 Q 53 [some (sr c0), some (si c1), some (si c2), some (si a.1), some (si a.2)] [] (k) (n) h :=
  lpg (X := fun (a : (Int32 × Int32)) => gV G mX0_capitalSigns 1 Q 53 [some (sr c0), some (si c1), some (si c2), some (si a.1), some (si a.2)] [] (k) (n) h) (fun a P2 hL hE hF => by
    delta fX0_capitalSigns_B53 at hF
    refine v_iload (pc := 53) (i := 4) dX0_capitalSigns_53 rfl ?_
    refine v_aload_n (pc := 55) (i := 0) dX0_capitalSigns_55 rfl rfl ?_
    refine cp_V (pc := 56) gI (as := []) (st := [si a.2]) (ci := 0) (N := mX1_size) (k := k) (n := n) (k1 := 0) (n1 := 0) dX0_capitalSigns_56 lkX0_29 caX1_size cvX1_size rfl (by decide) rfl (fun b Q1 hq => tX1_size b h Q1 hq) ⟨by decide, by decide⟩ (Nat.le_of_ble_eq_true rfl) rfl hF (fun x1 hF => ?_)
    show gV G mX0_capitalSigns 1 Q 59 [some (sr c0), some (si c1), some (si c2), some (si a.1), some (si a.2)] [si x1, si a.2] (k) (n) h
    refine v_icmp_ge (pc := 59) 102 dX0_capitalSigns_59 rfl (fun hc => ?_) (fun hc => ?_)
    · replace hF := (okB_if hF).1 hc
      exact v_lle [none, some (si c1), some (si c2), some (si a.1), some (si a.2)] ⟨rfl, rfl, rfl, rfl, trivial⟩ (hJ (a.1, a.2) (hE _ (okB_some hF)))
    replace hF := (okB_if hF).2 hc
    refine v_aload_n (pc := 62) (i := 0) dX0_capitalSigns_62 rfl rfl ?_
    refine v_iload (pc := 63) (i := 4) dX0_capitalSigns_63 rfl ?_
    refine cp_V (pc := 65) gI (as := [si a.2]) (st := []) (ci := 0) (N := mX1_at) (k := k) (n := n) (k1 := 0) (n1 := 0) dX0_capitalSigns_65 lkX0_35 caX1_at cvX1_at rfl (by decide) rfl (fun b Q1 hq => tX1_at b a.2 h Q1 hq) ⟨by decide, by decide⟩ (Nat.le_of_ble_eq_true rfl) rfl hF (fun x2 hF => ?_)
    show gV G mX0_capitalSigns 1 Q 68 [some (sr c0), some (si c1), some (si c2), some (si a.1), some (si a.2)] [si x2] (k) (n) h
    refine cp_S (pc := 68) gI (as := [si x2]) (st := []) (N := mX0_isLetter) (k := k) (n := n) (k1 := 0) (n1 := 0) dX0_capitalSigns_68 lkX0_59 caX0_isLetter csX0_isLetter rfl (fun Q1 hq => tX0_isLetter x2 h Q1 hq) ⟨by decide, by decide⟩ (Nat.le_of_ble_eq_true rfl) rfl hF (fun x3 hF => ?_)
    show gV G mX0_capitalSigns 1 Q 71 [some (sr c0), some (si c1), some (si c2), some (si a.1), some (si a.2)] [si x3] (k) (n) h
    refine v_if_eq (pc := 71) 102 dX0_capitalSigns_71 rfl (fun hc => ?_) (fun hc => ?_)
    · replace hF := (okB_if hF).1 hc
      exact v_lle [none, some (si c1), some (si c2), some (si a.1), some (si a.2)] ⟨rfl, rfl, rfl, rfl, trivial⟩ (hJ (a.1, a.2) (hE _ (okB_some hF)))
    replace hF := (okB_if hF).2 hc
    refine v_iload_n (pc := 74) (i := 3) dX0_capitalSigns_74 rfl rfl ?_
    refine v_if_eq (pc := 75) 94 dX0_capitalSigns_75 rfl (fun hc => ?_) (fun hc => ?_)
    · replace hF := (okB_if hF).1 hc
      refine v_iconst (pc := 94) (v := (0 : Int32)) dX0_capitalSigns_94 rfl ?_
      refine v_istore_n (pc := 95) (i := 3) [some (sr c0), some (si c1), some (si c2), some (si (0 : Int32)), some (si a.2)] dX0_capitalSigns_95 rfl (by decide) rfl rfl ?_
      refine v_iinc (pc := 96) (i := 4) (a.2 + (1 : Int32)) [some (sr c0), some (si c1), some (si c2), some (si (0 : Int32)), some (si (a.2 + (1 : Int32)))] dX0_capitalSigns_96 rfl rfl rfl rfl ?_
      refine v_goto (pc := 99) 53 dX0_capitalSigns_99 rfl ?_
      exact v_lle [some (sr c0), some (si c1), some (si c2), some (si (0 : Int32)), some (si (a.2 + (1 : Int32)))] ⟨rfl, rfl, rfl, rfl, rfl, trivial⟩ (hL ((0 : Int32), a.2 + (1 : Int32)) (okB_some hF))
    replace hF := (okB_if hF).2 hc
    refine v_aload_n (pc := 78) (i := 0) dX0_capitalSigns_78 rfl rfl ?_
    refine v_iload (pc := 79) (i := 4) dX0_capitalSigns_79 rfl ?_
    refine cp_V (pc := 81) gI (as := [si a.2]) (st := []) (ci := 0) (N := mX1_at) (k := k) (n := n) (k1 := 0) (n1 := 0) dX0_capitalSigns_81 lkX0_35 caX1_at cvX1_at rfl (by decide) rfl (fun b Q1 hq => tX1_at b a.2 h Q1 hq) ⟨by decide, by decide⟩ (Nat.le_of_ble_eq_true rfl) rfl hF (fun x4 hF => ?_)
    show gV G mX0_capitalSigns 1 Q 84 [some (sr c0), some (si c1), some (si c2), some (si a.1), some (si a.2)] [si x4] (k) (n) h
    refine cp_S (pc := 84) gI (as := [si x4]) (st := []) (N := mX0_isCapital) (k := k) (n := n) (k1 := 0) (n1 := 0) dX0_capitalSigns_84 lkX0_49 caX0_isCapital csX0_isCapital rfl (fun Q1 hq => tX0_isCapital x4 h Q1 hq) ⟨by decide, by decide⟩ (Nat.le_of_ble_eq_true rfl) rfl hF (fun x5 hF => ?_)
    show gV G mX0_capitalSigns 1 Q 87 [some (sr c0), some (si c1), some (si c2), some (si a.1), some (si a.2)] [si x5] (k) (n) h
    refine v_if_eq (pc := 87) 94 dX0_capitalSigns_87 rfl (fun hc => ?_) (fun hc => ?_)
    · replace hF := (okB_if hF).1 hc
      refine v_iconst (pc := 94) (v := (0 : Int32)) dX0_capitalSigns_94 rfl ?_
      refine v_istore_n (pc := 95) (i := 3) [some (sr c0), some (si c1), some (si c2), some (si (0 : Int32)), some (si a.2)] dX0_capitalSigns_95 rfl (by decide) rfl rfl ?_
      refine v_iinc (pc := 96) (i := 4) (a.2 + (1 : Int32)) [some (sr c0), some (si c1), some (si c2), some (si (0 : Int32)), some (si (a.2 + (1 : Int32)))] dX0_capitalSigns_96 rfl rfl rfl rfl ?_
      refine v_goto (pc := 99) 53 dX0_capitalSigns_99 rfl ?_
      exact v_lle [some (sr c0), some (si c1), some (si c2), some (si (0 : Int32)), some (si (a.2 + (1 : Int32)))] ⟨rfl, rfl, rfl, rfl, rfl, trivial⟩ (hL ((0 : Int32), a.2 + (1 : Int32)) (okB_some hF))
    replace hF := (okB_if hF).2 hc
    refine v_iconst (pc := 90) (v := (1 : Int32)) dX0_capitalSigns_90 rfl ?_
    refine v_goto (pc := 91) 95 dX0_capitalSigns_91 rfl ?_
    refine v_istore_n (pc := 95) (i := 3) [some (sr c0), some (si c1), some (si c2), some (si (1 : Int32)), some (si a.2)] dX0_capitalSigns_95 rfl (by decide) rfl rfl ?_
    refine v_iinc (pc := 96) (i := 4) (a.2 + (1 : Int32)) [some (sr c0), some (si c1), some (si c2), some (si (1 : Int32)), some (si (a.2 + (1 : Int32)))] dX0_capitalSigns_96 rfl rfl rfl rfl ?_
    refine v_goto (pc := 99) 53 dX0_capitalSigns_99 rfl ?_
    exact v_lle [some (sr c0), some (si c1), some (si c2), some (si (1 : Int32)), some (si (a.2 + (1 : Int32)))] ⟨rfl, rfl, rfl, rfl, rfl, trivial⟩ (hL ((1 : Int32), a.2 + (1 : Int32)) (okB_some hF)))
theorem tX0_capitalSigns {G : gG} (a0 : (Option Nat)) (a1 : Int32) (h : hp) (Q : hQ) (hF : okB (fX0_capitalSigns a0 a1 h) (pP gI Q h)) : gS G mX0_capitalSigns 1 0 0 [sr a0, si a1] h Q := by
  delta fX0_capitalSigns at hF
  refine gS_at [some (sr a0), some (si a1), none, none, none] pl_X0 rfl (Nat.le_of_ble_eq_true rfl) rfl ?_
  refine v_iload_n (pc := 0) (i := 1) dX0_capitalSigns_0 rfl rfl ?_
  refine v_istore_n (pc := 1) (i := 2) [some (sr a0), some (si a1), some (si a1), none, none] dX0_capitalSigns_1 rfl (by decide) rfl rfl ?_
  refine v_iconst (pc := 2) (v := (1 : Int32)) dX0_capitalSigns_2 rfl ?_
  refine v_istore_n (pc := 3) (i := 3) [some (sr a0), some (si a1), some (si a1), some (si (1 : Int32)), none] dX0_capitalSigns_3 rfl (by decide) rfl rfl ?_
  refine mg (X := fun q1 => gV G mX0_capitalSigns 1 Q 48 [some (sr a0), some (si a1), some (si q1.1), some (si q1.2), none] [] (0) (0) h) hF (fun _ hj4 hF => v_lle [some (sr a0), some (si a1), some (si a1), some (si (1 : Int32)), none] ⟨rfl, rfl, rfl, rfl, trivial⟩ (lX0_capitalSigns_4 a0 a1 h hj4 FU (a1, (1 : Int32)) hF)) (fun q1 hF => ?_)
  refine v_iload_n (pc := 48) (i := 1) dX0_capitalSigns_48 rfl rfl ?_
  refine v_iconst (pc := 49) (v := (1 : Int32)) dX0_capitalSigns_49 rfl ?_
  refine v_iadd (pc := 50) dX0_capitalSigns_50 ?_
  refine v_istore (pc := 51) (i := 4) [some (sr a0), some (si a1), some (si q1.1), some (si q1.2), some (si (a1 + (1 : Int32)))] dX0_capitalSigns_51 (by decide) rfl rfl ?_
  refine mg (X := fun q2 => gV G mX0_capitalSigns 1 Q 102 [none, some (si a1), some (si q1.1), some (si q2.1), some (si q2.2)] [] (0) (0) h) hF (fun _ hj3 hF => v_lle [some (sr a0), some (si a1), some (si q1.1), some (si q1.2), some (si (a1 + (1 : Int32)))] ⟨rfl, rfl, rfl, rfl, rfl, trivial⟩ (lX0_capitalSigns_53 a0 a1 q1.1 h hj3 FU (q1.2, a1 + (1 : Int32)) hF)) (fun q2 hF => ?_)
  refine v_iload_n (pc := 102) (i := 3) dX0_capitalSigns_102 rfl rfl ?_
  refine v_if_eq (pc := 103) 114 dX0_capitalSigns_103 rfl (fun hc => ?_) (fun hc => ?_)
  · replace hF := (okB_if hF).1 hc
    refine v_iconst (pc := 114) (v := (1 : Int32)) dX0_capitalSigns_114 rfl ?_
    exact v_iret (pc := 115) dX0_capitalSigns_115 rfl rfl (okr hF fun q => q)
  replace hF := (okB_if hF).2 hc
  refine v_iload (pc := 106) (i := 4) dX0_capitalSigns_106 rfl ?_
  refine v_iload_n (pc := 108) (i := 2) dX0_capitalSigns_108 rfl rfl ?_
  refine v_isub (pc := 109) dX0_capitalSigns_109 ?_
  refine v_iconst (pc := 110) (v := (2 : Int32)) dX0_capitalSigns_110 rfl ?_
  refine v_icmp_ge (pc := 111) 116 dX0_capitalSigns_111 rfl (fun hc => ?_) (fun hc => ?_)
  · replace hF := (okB_if hF).1 hc
    refine v_iload_n (pc := 116) (i := 1) dX0_capitalSigns_116 rfl rfl ?_
    refine v_iload_n (pc := 117) (i := 2) dX0_capitalSigns_117 rfl rfl ?_
    refine v_icmp_ne (pc := 118) 125 dX0_capitalSigns_118 rfl (fun hc => ?_) (fun hc => ?_)
    · replace hF := (okB_if hF).2 hc
      refine v_iconst (pc := 125) (v := (0 : Int32)) dX0_capitalSigns_125 rfl ?_
      exact v_iret (pc := 126) dX0_capitalSigns_126 rfl rfl (okr hF fun q => q)
    replace hF := (okB_if hF).1 hc
    refine v_iconst (pc := 121) (v := (2 : Int32)) dX0_capitalSigns_121 rfl ?_
    refine v_goto (pc := 122) 126 dX0_capitalSigns_122 rfl ?_
    exact v_iret (pc := 126) dX0_capitalSigns_126 rfl rfl (okr hF fun q => q)
  replace hF := (okB_if hF).2 hc
  refine v_iconst (pc := 114) (v := (1 : Int32)) dX0_capitalSigns_114 rfl ?_
  exact v_iret (pc := 115) dX0_capitalSigns_115 rfl rfl (okr hF fun q => q)
