/-! ===== the law's methods over its arrays: their functions and rows ===== -/
theorem dL_isThere_0 : decode cL_isThere 0 = .ok (.aload_n 0, 1) := by decide +kernel
theorem dL_isThere_1 : decode cL_isThere 1 = .ok (.bipush 6, 2) := by decide +kernel
theorem dL_isThere_3 : decode cL_isThere 3 = .ok (.iload_n 1, 1) := by decide +kernel
theorem dL_isThere_4 : decode cL_isThere 4 = .ok (.imul, 1) := by decide +kernel
theorem dL_isThere_5 : decode cL_isThere 5 = .ok (.iconst 3, 1) := by decide +kernel
theorem dL_isThere_6 : decode cL_isThere 6 = .ok (.iadd, 1) := by decide +kernel
theorem dL_isThere_7 : decode cL_isThere 7 = .ok (.iaload, 1) := by decide +kernel
theorem dL_isThere_8 : decode cL_isThere 8 = .ok (.iconst 1, 1) := by decide +kernel
theorem dL_isThere_9 : decode cL_isThere 9 = .ok (.iand, 1) := by decide +kernel
theorem dL_isThere_10 : decode cL_isThere 10 = .ok (.iconst 1, 1) := by decide +kernel
theorem dL_isThere_11 : decode cL_isThere 11 = .ok (.if_icmp .ne 7, 3) := by decide +kernel
theorem dL_isThere_14 : decode cL_isThere 14 = .ok (.iconst 1, 1) := by decide +kernel
theorem dL_isThere_15 : decode cL_isThere 15 = .ok (.goto 4, 3) := by decide +kernel
theorem dL_isThere_18 : decode cL_isThere 18 = .ok (.iconst 0, 1) := by decide +kernel
theorem dL_isThere_19 : decode cL_isThere 19 = .ok (.ireturn, 1) := by decide +kernel
theorem dL_isHidden_0 : decode cL_isHidden 0 = .ok (.aload_n 0, 1) := by decide +kernel
theorem dL_isHidden_1 : decode cL_isHidden 1 = .ok (.bipush 6, 2) := by decide +kernel
theorem dL_isHidden_3 : decode cL_isHidden 3 = .ok (.iload_n 1, 1) := by decide +kernel
theorem dL_isHidden_4 : decode cL_isHidden 4 = .ok (.imul, 1) := by decide +kernel
theorem dL_isHidden_5 : decode cL_isHidden 5 = .ok (.iconst 3, 1) := by decide +kernel
theorem dL_isHidden_6 : decode cL_isHidden 6 = .ok (.iadd, 1) := by decide +kernel
theorem dL_isHidden_7 : decode cL_isHidden 7 = .ok (.iaload, 1) := by decide +kernel
theorem dL_isHidden_8 : decode cL_isHidden 8 = .ok (.iconst 2, 1) := by decide +kernel
theorem dL_isHidden_9 : decode cL_isHidden 9 = .ok (.iand, 1) := by decide +kernel
theorem dL_isHidden_10 : decode cL_isHidden 10 = .ok (.iconst 2, 1) := by decide +kernel
theorem dL_isHidden_11 : decode cL_isHidden 11 = .ok (.if_icmp .ne 7, 3) := by decide +kernel
theorem dL_isHidden_14 : decode cL_isHidden 14 = .ok (.iconst 1, 1) := by decide +kernel
theorem dL_isHidden_15 : decode cL_isHidden 15 = .ok (.goto 4, 3) := by decide +kernel
theorem dL_isHidden_18 : decode cL_isHidden 18 = .ok (.iconst 0, 1) := by decide +kernel
theorem dL_isHidden_19 : decode cL_isHidden 19 = .ok (.ireturn, 1) := by decide +kernel
theorem dL_isShown_0 : decode cL_isShown 0 = .ok (.iload_n 1, 1) := by decide +kernel
theorem dL_isShown_1 : decode cL_isShown 1 = .ok (.istore_n 2, 1) := by decide +kernel
theorem dL_isShown_2 : decode cL_isShown 2 = .ok (.aload_n 0, 1) := by decide +kernel
theorem dL_isShown_3 : decode cL_isShown 3 = .ok (.iload_n 1, 1) := by decide +kernel
theorem dL_isShown_4 : decode cL_isShown 4 = .ok (.invokestatic 7, 3) := by decide +kernel
theorem dL_isShown_7 : decode cL_isShown 7 = .ok (.istore_n 3, 1) := by decide +kernel
theorem dL_isShown_8 : decode cL_isShown 8 = .ok (.iload_n 2, 1) := by decide +kernel
theorem dL_isShown_9 : decode cL_isShown 9 = .ok (.ifCond .lt 33, 3) := by decide +kernel
theorem dL_isShown_12 : decode cL_isShown 12 = .ok (.iload_n 3, 1) := by decide +kernel
theorem dL_isShown_13 : decode cL_isShown 13 = .ok (.ifCond .eq 29, 3) := by decide +kernel
theorem dL_isShown_16 : decode cL_isShown 16 = .ok (.aload_n 0, 1) := by decide +kernel
theorem dL_isShown_17 : decode cL_isShown 17 = .ok (.iload_n 2, 1) := by decide +kernel
theorem dL_isShown_18 : decode cL_isShown 18 = .ok (.invokestatic 13, 3) := by decide +kernel
theorem dL_isShown_21 : decode cL_isShown 21 = .ok (.ifCond .ne 7, 3) := by decide +kernel
theorem dL_isShown_24 : decode cL_isShown 24 = .ok (.iconst 1, 1) := by decide +kernel
theorem dL_isShown_25 : decode cL_isShown 25 = .ok (.goto 4, 3) := by decide +kernel
theorem dL_isShown_28 : decode cL_isShown 28 = .ok (.iconst 0, 1) := by decide +kernel
theorem dL_isShown_29 : decode cL_isShown 29 = .ok (.istore_n 3, 1) := by decide +kernel
theorem dL_isShown_30 : decode cL_isShown 30 = .ok (.aload_n 0, 1) := by decide +kernel
theorem dL_isShown_31 : decode cL_isShown 31 = .ok (.bipush 6, 2) := by decide +kernel
theorem dL_isShown_33 : decode cL_isShown 33 = .ok (.iload_n 2, 1) := by decide +kernel
theorem dL_isShown_34 : decode cL_isShown 34 = .ok (.imul, 1) := by decide +kernel
theorem dL_isShown_35 : decode cL_isShown 35 = .ok (.iconst 1, 1) := by decide +kernel
theorem dL_isShown_36 : decode cL_isShown 36 = .ok (.iadd, 1) := by decide +kernel
theorem dL_isShown_37 : decode cL_isShown 37 = .ok (.iaload, 1) := by decide +kernel
theorem dL_isShown_38 : decode cL_isShown 38 = .ok (.istore_n 2, 1) := by decide +kernel
theorem dL_isShown_39 : decode cL_isShown 39 = .ok (.goto (-31), 3) := by decide +kernel
theorem dL_isShown_42 : decode cL_isShown 42 = .ok (.iload_n 3, 1) := by decide +kernel
theorem dL_isShown_43 : decode cL_isShown 43 = .ok (.ireturn, 1) := by decide +kernel
theorem dL_level_0 : decode cL_level 0 = .ok (.iload_n 1, 1) := by decide +kernel
theorem dL_level_1 : decode cL_level 1 = .ok (.istore_n 2, 1) := by decide +kernel
theorem dL_level_2 : decode cL_level 2 = .ok (.iload_n 2, 1) := by decide +kernel
theorem dL_level_3 : decode cL_level 3 = .ok (.ifCond .lt 26, 3) := by decide +kernel
theorem dL_level_6 : decode cL_level 6 = .ok (.aload_n 0, 1) := by decide +kernel
theorem dL_level_7 : decode cL_level 7 = .ok (.bipush 6, 2) := by decide +kernel
theorem dL_level_9 : decode cL_level 9 = .ok (.iload_n 2, 1) := by decide +kernel
theorem dL_level_10 : decode cL_level 10 = .ok (.imul, 1) := by decide +kernel
theorem dL_level_11 : decode cL_level 11 = .ok (.iconst 4, 1) := by decide +kernel
theorem dL_level_12 : decode cL_level 12 = .ok (.iadd, 1) := by decide +kernel
theorem dL_level_13 : decode cL_level 13 = .ok (.iaload, 1) := by decide +kernel
theorem dL_level_14 : decode cL_level 14 = .ok (.ifCond .ne 15, 3) := by decide +kernel
theorem dL_level_17 : decode cL_level 17 = .ok (.aload_n 0, 1) := by decide +kernel
theorem dL_level_18 : decode cL_level 18 = .ok (.bipush 6, 2) := by decide +kernel
theorem dL_level_20 : decode cL_level 20 = .ok (.iload_n 2, 1) := by decide +kernel
theorem dL_level_21 : decode cL_level 21 = .ok (.imul, 1) := by decide +kernel
theorem dL_level_22 : decode cL_level 22 = .ok (.iconst 1, 1) := by decide +kernel
theorem dL_level_23 : decode cL_level 23 = .ok (.iadd, 1) := by decide +kernel
theorem dL_level_24 : decode cL_level 24 = .ok (.iaload, 1) := by decide +kernel
theorem dL_level_25 : decode cL_level 25 = .ok (.istore_n 2, 1) := by decide +kernel
theorem dL_level_26 : decode cL_level 26 = .ok (.goto (-24), 3) := by decide +kernel
theorem dL_level_29 : decode cL_level 29 = .ok (.iload_n 2, 1) := by decide +kernel
theorem dL_level_30 : decode cL_level 30 = .ok (.ifCond .ge 7, 3) := by decide +kernel
theorem dL_level_33 : decode cL_level 33 = .ok (.iconst 1, 1) := by decide +kernel
theorem dL_level_34 : decode cL_level 34 = .ok (.goto 13, 3) := by decide +kernel
theorem dL_level_37 : decode cL_level 37 = .ok (.aload_n 0, 1) := by decide +kernel
theorem dL_level_38 : decode cL_level 38 = .ok (.bipush 6, 2) := by decide +kernel
theorem dL_level_40 : decode cL_level 40 = .ok (.iload_n 2, 1) := by decide +kernel
theorem dL_level_41 : decode cL_level 41 = .ok (.imul, 1) := by decide +kernel
theorem dL_level_42 : decode cL_level 42 = .ok (.iconst 4, 1) := by decide +kernel
theorem dL_level_43 : decode cL_level 43 = .ok (.iadd, 1) := by decide +kernel
theorem dL_level_44 : decode cL_level 44 = .ok (.iaload, 1) := by decide +kernel
theorem dL_level_45 : decode cL_level 45 = .ok (.iconst 1, 1) := by decide +kernel
theorem dL_level_46 : decode cL_level 46 = .ok (.isub, 1) := by decide +kernel
theorem dL_level_47 : decode cL_level 47 = .ok (.ireturn, 1) := by decide +kernel
theorem dL_kid_0 : decode cL_kid 0 = .ok (.iconst (-1), 1) := by decide +kernel
theorem dL_kid_1 : decode cL_kid 1 = .ok (.istore 5, 2) := by decide +kernel
theorem dL_kid_3 : decode cL_kid 3 = .ok (.iconst 0, 1) := by decide +kernel
theorem dL_kid_4 : decode cL_kid 4 = .ok (.istore 6, 2) := by decide +kernel
theorem dL_kid_6 : decode cL_kid 6 = .ok (.iload 6, 2) := by decide +kernel
theorem dL_kid_8 : decode cL_kid 8 = .ok (.aload_n 0, 1) := by decide +kernel
theorem dL_kid_9 : decode cL_kid 9 = .ok (.iconst 0, 1) := by decide +kernel
theorem dL_kid_10 : decode cL_kid 10 = .ok (.iaload, 1) := by decide +kernel
theorem dL_kid_11 : decode cL_kid 11 = .ok (.if_icmp .ge 105, 3) := by decide +kernel
theorem dL_kid_14 : decode cL_kid 14 = .ok (.aload_n 1, 1) := by decide +kernel
theorem dL_kid_15 : decode cL_kid 15 = .ok (.iload 6, 2) := by decide +kernel
theorem dL_kid_17 : decode cL_kid 17 = .ok (.invokestatic 7, 3) := by decide +kernel
theorem dL_kid_20 : decode cL_kid 20 = .ok (.ifCond .eq 47, 3) := by decide +kernel
theorem dL_kid_23 : decode cL_kid 23 = .ok (.aload_n 1, 1) := by decide +kernel
theorem dL_kid_24 : decode cL_kid 24 = .ok (.bipush 6, 2) := by decide +kernel
theorem dL_kid_26 : decode cL_kid 26 = .ok (.iload 6, 2) := by decide +kernel
theorem dL_kid_28 : decode cL_kid 28 = .ok (.imul, 1) := by decide +kernel
theorem dL_kid_29 : decode cL_kid 29 = .ok (.iconst 1, 1) := by decide +kernel
theorem dL_kid_30 : decode cL_kid 30 = .ok (.iadd, 1) := by decide +kernel
theorem dL_kid_31 : decode cL_kid 31 = .ok (.iaload, 1) := by decide +kernel
theorem dL_kid_32 : decode cL_kid 32 = .ok (.iload_n 2, 1) := by decide +kernel
theorem dL_kid_33 : decode cL_kid 33 = .ok (.if_icmp .ne 34, 3) := by decide +kernel
theorem dL_kid_36 : decode cL_kid 36 = .ok (.aload_n 1, 1) := by decide +kernel
theorem dL_kid_37 : decode cL_kid 37 = .ok (.bipush 6, 2) := by decide +kernel
theorem dL_kid_39 : decode cL_kid 39 = .ok (.iload 6, 2) := by decide +kernel
theorem dL_kid_41 : decode cL_kid 41 = .ok (.imul, 1) := by decide +kernel
theorem dL_kid_42 : decode cL_kid 42 = .ok (.iconst 2, 1) := by decide +kernel
theorem dL_kid_43 : decode cL_kid 43 = .ok (.iadd, 1) := by decide +kernel
theorem dL_kid_44 : decode cL_kid 44 = .ok (.iaload, 1) := by decide +kernel
theorem dL_kid_45 : decode cL_kid 45 = .ok (.iload_n 3, 1) := by decide +kernel
theorem dL_kid_46 : decode cL_kid 46 = .ok (.if_icmp .lt 21, 3) := by decide +kernel
theorem dL_kid_49 : decode cL_kid 49 = .ok (.iload 4, 2) := by decide +kernel
theorem dL_kid_51 : decode cL_kid 51 = .ok (.ifCond .ne 12, 3) := by decide +kernel
theorem dL_kid_54 : decode cL_kid 54 = .ok (.aload_n 1, 1) := by decide +kernel
theorem dL_kid_55 : decode cL_kid 55 = .ok (.iload 6, 2) := by decide +kernel
theorem dL_kid_57 : decode cL_kid 57 = .ok (.invokestatic 13, 3) := by decide +kernel
theorem dL_kid_60 : decode cL_kid 60 = .ok (.ifCond .ne 7, 3) := by decide +kernel
theorem dL_kid_63 : decode cL_kid 63 = .ok (.iconst 1, 1) := by decide +kernel
theorem dL_kid_64 : decode cL_kid 64 = .ok (.goto 4, 3) := by decide +kernel
theorem dL_kid_67 : decode cL_kid 67 = .ok (.iconst 0, 1) := by decide +kernel
theorem dL_kid_68 : decode cL_kid 68 = .ok (.istore 7, 2) := by decide +kernel
theorem dL_kid_70 : decode cL_kid 70 = .ok (.iload 7, 2) := by decide +kernel
theorem dL_kid_72 : decode cL_kid 72 = .ok (.ifCond .eq 34, 3) := by decide +kernel
theorem dL_kid_75 : decode cL_kid 75 = .ok (.iload 5, 2) := by decide +kernel
theorem dL_kid_77 : decode cL_kid 77 = .ok (.ifCond .lt 24, 3) := by decide +kernel
theorem dL_kid_80 : decode cL_kid 80 = .ok (.aload_n 1, 1) := by decide +kernel
theorem dL_kid_81 : decode cL_kid 81 = .ok (.bipush 6, 2) := by decide +kernel
theorem dL_kid_83 : decode cL_kid 83 = .ok (.iload 6, 2) := by decide +kernel
theorem dL_kid_85 : decode cL_kid 85 = .ok (.imul, 1) := by decide +kernel
theorem dL_kid_86 : decode cL_kid 86 = .ok (.iconst 2, 1) := by decide +kernel
theorem dL_kid_87 : decode cL_kid 87 = .ok (.iadd, 1) := by decide +kernel
theorem dL_kid_88 : decode cL_kid 88 = .ok (.iaload, 1) := by decide +kernel
theorem dL_kid_89 : decode cL_kid 89 = .ok (.aload_n 1, 1) := by decide +kernel
theorem dL_kid_90 : decode cL_kid 90 = .ok (.bipush 6, 2) := by decide +kernel
theorem dL_kid_92 : decode cL_kid 92 = .ok (.iload 5, 2) := by decide +kernel
theorem dL_kid_94 : decode cL_kid 94 = .ok (.imul, 1) := by decide +kernel
theorem dL_kid_95 : decode cL_kid 95 = .ok (.iconst 2, 1) := by decide +kernel
theorem dL_kid_96 : decode cL_kid 96 = .ok (.iadd, 1) := by decide +kernel
theorem dL_kid_97 : decode cL_kid 97 = .ok (.iaload, 1) := by decide +kernel
theorem dL_kid_98 : decode cL_kid 98 = .ok (.if_icmp .ge 8, 3) := by decide +kernel
theorem dL_kid_101 : decode cL_kid 101 = .ok (.iload 6, 2) := by decide +kernel
theorem dL_kid_103 : decode cL_kid 103 = .ok (.goto 5, 3) := by decide +kernel
theorem dL_kid_106 : decode cL_kid 106 = .ok (.iload 5, 2) := by decide +kernel
theorem dL_kid_108 : decode cL_kid 108 = .ok (.istore 5, 2) := by decide +kernel
theorem dL_kid_110 : decode cL_kid 110 = .ok (.iinc 6 1, 3) := by decide +kernel
theorem dL_kid_113 : decode cL_kid 113 = .ok (.goto (-107), 3) := by decide +kernel
theorem dL_kid_116 : decode cL_kid 116 = .ok (.iload 5, 2) := by decide +kernel
theorem dL_kid_118 : decode cL_kid 118 = .ok (.ireturn, 1) := by decide +kernel
theorem dL_kids_0 : decode cL_kids 0 = .ok (.iconst 0, 1) := by decide +kernel
theorem dL_kids_1 : decode cL_kids 1 = .ok (.istore_n 3, 1) := by decide +kernel
theorem dL_kids_2 : decode cL_kids 2 = .ok (.iconst 0, 1) := by decide +kernel
theorem dL_kids_3 : decode cL_kids 3 = .ok (.istore 4, 2) := by decide +kernel
theorem dL_kids_5 : decode cL_kids 5 = .ok (.iload 4, 2) := by decide +kernel
theorem dL_kids_7 : decode cL_kids 7 = .ok (.aload_n 0, 1) := by decide +kernel
theorem dL_kids_8 : decode cL_kids 8 = .ok (.iconst 0, 1) := by decide +kernel
theorem dL_kids_9 : decode cL_kids 9 = .ok (.iaload, 1) := by decide +kernel
theorem dL_kids_10 : decode cL_kids 10 = .ok (.if_icmp .ge 39, 3) := by decide +kernel
theorem dL_kids_13 : decode cL_kids 13 = .ok (.iload_n 3, 1) := by decide +kernel
theorem dL_kids_14 : decode cL_kids 14 = .ok (.aload_n 1, 1) := by decide +kernel
theorem dL_kids_15 : decode cL_kids 15 = .ok (.iload 4, 2) := by decide +kernel
theorem dL_kids_17 : decode cL_kids 17 = .ok (.invokestatic 7, 3) := by decide +kernel
theorem dL_kids_20 : decode cL_kids 20 = .ok (.ifCond .eq 20, 3) := by decide +kernel
theorem dL_kids_23 : decode cL_kids 23 = .ok (.aload_n 1, 1) := by decide +kernel
theorem dL_kids_24 : decode cL_kids 24 = .ok (.bipush 6, 2) := by decide +kernel
theorem dL_kids_26 : decode cL_kids 26 = .ok (.iload 4, 2) := by decide +kernel
theorem dL_kids_28 : decode cL_kids 28 = .ok (.imul, 1) := by decide +kernel
theorem dL_kids_29 : decode cL_kids 29 = .ok (.iconst 1, 1) := by decide +kernel
theorem dL_kids_30 : decode cL_kids 30 = .ok (.iadd, 1) := by decide +kernel
theorem dL_kids_31 : decode cL_kids 31 = .ok (.iaload, 1) := by decide +kernel
theorem dL_kids_32 : decode cL_kids 32 = .ok (.iload_n 2, 1) := by decide +kernel
theorem dL_kids_33 : decode cL_kids 33 = .ok (.if_icmp .ne 7, 3) := by decide +kernel
theorem dL_kids_36 : decode cL_kids 36 = .ok (.iconst 1, 1) := by decide +kernel
theorem dL_kids_37 : decode cL_kids 37 = .ok (.goto 4, 3) := by decide +kernel
theorem dL_kids_40 : decode cL_kids 40 = .ok (.iconst 0, 1) := by decide +kernel
theorem dL_kids_41 : decode cL_kids 41 = .ok (.iadd, 1) := by decide +kernel
theorem dL_kids_42 : decode cL_kids 42 = .ok (.istore_n 3, 1) := by decide +kernel
theorem dL_kids_43 : decode cL_kids 43 = .ok (.iinc 4 1, 3) := by decide +kernel
theorem dL_kids_46 : decode cL_kids 46 = .ok (.goto (-41), 3) := by decide +kernel
theorem dL_kids_49 : decode cL_kids 49 = .ok (.iload_n 3, 1) := by decide +kernel
theorem dL_kids_50 : decode cL_kids 50 = .ok (.ireturn, 1) := by decide +kernel
theorem dL_next_0 : decode cL_next 0 = .ok (.iload_n 2, 1) := by decide +kernel
theorem dL_next_1 : decode cL_next 1 = .ok (.istore_n 3, 1) := by decide +kernel
theorem dL_next_2 : decode cL_next 2 = .ok (.aload_n 0, 1) := by decide +kernel
theorem dL_next_3 : decode cL_next 3 = .ok (.aload_n 1, 1) := by decide +kernel
theorem dL_next_4 : decode cL_next 4 = .ok (.iload_n 3, 1) := by decide +kernel
theorem dL_next_5 : decode cL_next 5 = .ok (.iconst 0, 1) := by decide +kernel
theorem dL_next_6 : decode cL_next 6 = .ok (.iconst 0, 1) := by decide +kernel
theorem dL_next_7 : decode cL_next 7 = .ok (.invokestatic 16, 3) := by decide +kernel
theorem dL_next_10 : decode cL_next 10 = .ok (.istore 4, 2) := by decide +kernel
theorem dL_next_12 : decode cL_next 12 = .ok (.iload 4, 2) := by decide +kernel
theorem dL_next_14 : decode cL_next 14 = .ok (.ifCond .ge 45, 3) := by decide +kernel
theorem dL_next_17 : decode cL_next 17 = .ok (.iload_n 3, 1) := by decide +kernel
theorem dL_next_18 : decode cL_next 18 = .ok (.ifCond .le 41, 3) := by decide +kernel
theorem dL_next_21 : decode cL_next 21 = .ok (.aload_n 0, 1) := by decide +kernel
theorem dL_next_22 : decode cL_next 22 = .ok (.aload_n 1, 1) := by decide +kernel
theorem dL_next_23 : decode cL_next 23 = .ok (.aload_n 1, 1) := by decide +kernel
theorem dL_next_24 : decode cL_next 24 = .ok (.bipush 6, 2) := by decide +kernel
theorem dL_next_26 : decode cL_next 26 = .ok (.iload_n 3, 1) := by decide +kernel
theorem dL_next_27 : decode cL_next 27 = .ok (.imul, 1) := by decide +kernel
theorem dL_next_28 : decode cL_next 28 = .ok (.iconst 1, 1) := by decide +kernel
theorem dL_next_29 : decode cL_next 29 = .ok (.iadd, 1) := by decide +kernel
theorem dL_next_30 : decode cL_next 30 = .ok (.iaload, 1) := by decide +kernel
theorem dL_next_31 : decode cL_next 31 = .ok (.aload_n 1, 1) := by decide +kernel
theorem dL_next_32 : decode cL_next 32 = .ok (.bipush 6, 2) := by decide +kernel
theorem dL_next_34 : decode cL_next 34 = .ok (.iload_n 3, 1) := by decide +kernel
theorem dL_next_35 : decode cL_next 35 = .ok (.imul, 1) := by decide +kernel
theorem dL_next_36 : decode cL_next 36 = .ok (.iconst 2, 1) := by decide +kernel
theorem dL_next_37 : decode cL_next 37 = .ok (.iadd, 1) := by decide +kernel
theorem dL_next_38 : decode cL_next 38 = .ok (.iaload, 1) := by decide +kernel
theorem dL_next_39 : decode cL_next 39 = .ok (.iconst 1, 1) := by decide +kernel
theorem dL_next_40 : decode cL_next 40 = .ok (.iadd, 1) := by decide +kernel
theorem dL_next_41 : decode cL_next 41 = .ok (.iconst 0, 1) := by decide +kernel
theorem dL_next_42 : decode cL_next 42 = .ok (.invokestatic 16, 3) := by decide +kernel
theorem dL_next_45 : decode cL_next 45 = .ok (.istore 4, 2) := by decide +kernel
theorem dL_next_47 : decode cL_next 47 = .ok (.aload_n 1, 1) := by decide +kernel
theorem dL_next_48 : decode cL_next 48 = .ok (.bipush 6, 2) := by decide +kernel
theorem dL_next_50 : decode cL_next 50 = .ok (.iload_n 3, 1) := by decide +kernel
theorem dL_next_51 : decode cL_next 51 = .ok (.imul, 1) := by decide +kernel
theorem dL_next_52 : decode cL_next 52 = .ok (.iconst 1, 1) := by decide +kernel
theorem dL_next_53 : decode cL_next 53 = .ok (.iadd, 1) := by decide +kernel
theorem dL_next_54 : decode cL_next 54 = .ok (.iaload, 1) := by decide +kernel
theorem dL_next_55 : decode cL_next 55 = .ok (.istore_n 3, 1) := by decide +kernel
theorem dL_next_56 : decode cL_next 56 = .ok (.goto (-44), 3) := by decide +kernel
theorem dL_next_59 : decode cL_next 59 = .ok (.iload 4, 2) := by decide +kernel
theorem dL_next_61 : decode cL_next 61 = .ok (.ireturn, 1) := by decide +kernel
abbrev mL_isThere : gM := (yL_isThere, cL_isThere, 2, (Option.some FieldType.boolean), [])
theorem caL_isThere : cal mL_isThere 2 := ⟨xw 866 (by decide +kernel) rfl, xw 28 (by decide +kernel) rfl, by decide, by decide +kernel⟩
theorem csL_isThere : Cond.static yL_isThere ∈ XW := xw 865 (by decide +kernel) rfl
abbrev mL_isHidden : gM := (yL_isHidden, cL_isHidden, 2, (Option.some FieldType.boolean), [])
theorem caL_isHidden : cal mL_isHidden 2 := ⟨xw 869 (by decide +kernel) rfl, xw 28 (by decide +kernel) rfl, by decide, by decide +kernel⟩
theorem csL_isHidden : Cond.static yL_isHidden ∈ XW := xw 868 (by decide +kernel) rfl
abbrev mL_isShown : gM := (yL_isShown, cL_isShown, 4, (Option.some FieldType.boolean), [])
theorem caL_isShown : cal mL_isShown 2 := ⟨xw 948 (by decide +kernel) rfl, xw 28 (by decide +kernel) rfl, by decide, by decide +kernel⟩
theorem csL_isShown : Cond.static yL_isShown ∈ XW := xw 947 (by decide +kernel) rfl
abbrev mL_level : gM := (yL_level, cL_level, 3, (Option.some FieldType.int), [])
theorem caL_level : cal mL_level 2 := ⟨xw 888 (by decide +kernel) rfl, xw 28 (by decide +kernel) rfl, by decide, by decide +kernel⟩
theorem csL_level : Cond.static yL_level ∈ XW := xw 887 (by decide +kernel) rfl
abbrev mL_kid : gM := (yL_kid, cL_kid, 8, (Option.some FieldType.int), [])
theorem caL_kid : cal mL_kid 5 := ⟨xw 923 (by decide +kernel) rfl, xw 28 (by decide +kernel) rfl, by decide, by decide +kernel⟩
theorem csL_kid : Cond.static yL_kid ∈ XW := xw 922 (by decide +kernel) rfl
abbrev mL_kids : gM := (yL_kids, cL_kids, 5, (Option.some FieldType.int), [])
theorem caL_kids : cal mL_kids 3 := ⟨xw 932 (by decide +kernel) rfl, xw 28 (by decide +kernel) rfl, by decide, by decide +kernel⟩
theorem csL_kids : Cond.static yL_kids ∈ XW := xw 931 (by decide +kernel) rfl
abbrev mL_next : gM := (yL_next, cL_next, 5, (Option.some FieldType.int), [])
theorem caL_next : cal mL_next 3 := ⟨xw 920 (by decide +kernel) rfl, xw 28 (by decide +kernel) rfl, by decide, by decide +kernel⟩
theorem csL_next : Cond.static yL_next ∈ XW := xw 919 (by decide +kernel) rfl
theorem pl_L : plainName RL = true := by decide +kernel
theorem lkL_7 : Cond.methodLink RL 7 yL_isThere ∈ XW := xw 864 (by decide +kernel) rfl
theorem lkL_13 : Cond.methodLink RL 13 yL_isHidden ∈ XW := xw 867 (by decide +kernel) rfl
theorem lkL_16 : Cond.methodLink RL 16 yL_kid ∈ XW := xw 921 (by decide +kernel) rfl
/-! BrailleDeskLaw.isThere -/
theorem tL_isThere {G : gG} (a0 : (Option Nat)) (a1 : Int32) (h : hp) (Q : hQ) (hF : okB (fL_isThere a0 a1 h) (pP gI Q h)) : gS G mL_isThere 0 0 0 [sr a0, si a1] h Q := by
  delta fL_isThere at hF
  refine gS_at [some (sr a0), some (si a1)] pl_L rfl (Nat.le_of_ble_eq_true rfl) rfl ?_
  refine v_aload_n (pc := 0) (i := 0) dL_isThere_0 rfl rfl ?_
  refine v_bipush (pc := 1) (v := (6 : Int32)) dL_isThere_1 rfl ?_
  refine v_iload_n (pc := 3) (i := 1) dL_isThere_3 rfl rfl ?_
  refine v_imul (pc := 4) dL_isThere_4 ?_
  refine v_iconst (pc := 5) (v := (3 : Int32)) dL_isThere_5 rfl ?_
  refine v_iadd (pc := 6) dL_isThere_6 ?_
  refine s_iald (pc := 7) dL_isThere_7 hF (fun x1 hF => ?_)
  refine v_iconst (pc := 8) (v := (1 : Int32)) dL_isThere_8 rfl ?_
  refine v_iand (pc := 9) dL_isThere_9 ?_
  refine v_iconst (pc := 10) (v := (1 : Int32)) dL_isThere_10 rfl ?_
  refine v_icmp_ne (pc := 11) 18 dL_isThere_11 rfl (fun hc => ?_) (fun hc => ?_)
  · replace hF := (okB_if hF).2 hc
    refine v_iconst (pc := 18) (v := (0 : Int32)) dL_isThere_18 rfl ?_
    exact v_iret (pc := 19) dL_isThere_19 rfl rfl (okr hF fun q => q)
  replace hF := (okB_if hF).1 hc
  refine v_iconst (pc := 14) (v := (1 : Int32)) dL_isThere_14 rfl ?_
  refine v_goto (pc := 15) 19 dL_isThere_15 rfl ?_
  exact v_iret (pc := 19) dL_isThere_19 rfl rfl (okr hF fun q => q)
/-! BrailleDeskLaw.isHidden -/
theorem tL_isHidden {G : gG} (a0 : (Option Nat)) (a1 : Int32) (h : hp) (Q : hQ) (hF : okB (fL_isHidden a0 a1 h) (pP gI Q h)) : gS G mL_isHidden 0 0 0 [sr a0, si a1] h Q := by
  delta fL_isHidden at hF
  refine gS_at [some (sr a0), some (si a1)] pl_L rfl (Nat.le_of_ble_eq_true rfl) rfl ?_
  refine v_aload_n (pc := 0) (i := 0) dL_isHidden_0 rfl rfl ?_
  refine v_bipush (pc := 1) (v := (6 : Int32)) dL_isHidden_1 rfl ?_
  refine v_iload_n (pc := 3) (i := 1) dL_isHidden_3 rfl rfl ?_
  refine v_imul (pc := 4) dL_isHidden_4 ?_
  refine v_iconst (pc := 5) (v := (3 : Int32)) dL_isHidden_5 rfl ?_
  refine v_iadd (pc := 6) dL_isHidden_6 ?_
  refine s_iald (pc := 7) dL_isHidden_7 hF (fun x1 hF => ?_)
  refine v_iconst (pc := 8) (v := (2 : Int32)) dL_isHidden_8 rfl ?_
  refine v_iand (pc := 9) dL_isHidden_9 ?_
  refine v_iconst (pc := 10) (v := (2 : Int32)) dL_isHidden_10 rfl ?_
  refine v_icmp_ne (pc := 11) 18 dL_isHidden_11 rfl (fun hc => ?_) (fun hc => ?_)
  · replace hF := (okB_if hF).2 hc
    refine v_iconst (pc := 18) (v := (0 : Int32)) dL_isHidden_18 rfl ?_
    exact v_iret (pc := 19) dL_isHidden_19 rfl rfl (okr hF fun q => q)
  replace hF := (okB_if hF).1 hc
  refine v_iconst (pc := 14) (v := (1 : Int32)) dL_isHidden_14 rfl ?_
  refine v_goto (pc := 15) 19 dL_isHidden_15 rfl ?_
  exact v_iret (pc := 19) dL_isHidden_19 rfl rfl (okr hF fun q => q)
/-! BrailleDeskLaw.isShown -/
theorem lL_isShown_8 {G : gG} {Q : hQ} {P : Int32 → Prop} {k n : Nat} (c0 : (Option Nat)) (h : hp) (hJ : ∀ q : Int32, P q → gV G mL_isShown 1 Q 42 [none, none, none, some (si q)] [] (k) (n) h) : ∀ (fu : Nat) (a : (Int32 × Int32)), okB (itr (fL_isShown_B8 c0 h) fu a) P → gV G mL_isShown 1 Q 8 [some (sr c0), none, some (si a.1), some (si a.2)] [] (k) (n) h :=
  lpg (X := fun (a : (Int32 × Int32)) => gV G mL_isShown 1 Q 8 [some (sr c0), none, some (si a.1), some (si a.2)] [] (k) (n) h) (fun a P2 hL hE hF => by
    delta fL_isShown_B8 at hF
    refine v_iload_n (pc := 8) (i := 2) dL_isShown_8 rfl rfl ?_
    refine v_if_lt (pc := 9) 42 dL_isShown_9 rfl (fun hc => ?_) (fun hc => ?_)
    · replace hF := (okB_if hF).1 hc
      exact v_lle [none, none, none, some (si a.2)] ⟨rfl, trivial⟩ (hJ a.2 (hE _ (okB_some hF)))
    replace hF := (okB_if hF).2 hc
    refine v_iload_n (pc := 12) (i := 3) dL_isShown_12 rfl rfl ?_
    refine v_if_eq (pc := 13) 42 dL_isShown_13 rfl (fun hc => ?_) (fun hc => ?_)
    · replace hF := (okB_if hF).1 hc
      exact v_lle [none, none, none, some (si a.2)] ⟨rfl, trivial⟩ (hJ a.2 (hE _ (okB_some hF)))
    replace hF := (okB_if hF).2 hc
    refine v_aload_n (pc := 16) (i := 0) dL_isShown_16 rfl rfl ?_
    refine v_iload_n (pc := 17) (i := 2) dL_isShown_17 rfl rfl ?_
    refine cp_S (pc := 18) gI (as := [sr c0, si a.1]) (st := []) (N := mL_isHidden) (k := k) (n := n) (k1 := 0) (n1 := 0) dL_isShown_18 lkL_13 caL_isHidden csL_isHidden rfl (fun Q1 hq => tL_isHidden c0 a.1 h Q1 hq) ⟨by decide, by decide⟩ (Nat.le_of_ble_eq_true rfl) rfl hF (fun x1 hF => ?_)
    show gV G mL_isShown 1 Q 21 [some (sr c0), none, some (si a.1), some (si a.2)] [si x1] (k) (n) h
    refine mg (X := fun q2 => gV G mL_isShown 1 Q 29 [some (sr c0), none, some (si a.1), none] [si q2] (k) (n) h) hF (fun _ hj3 hF => ?_) (fun q2 hF => ?_)
    · refine v_if_ne (pc := 21) 28 dL_isShown_21 rfl (fun hc => ?_) (fun hc => ?_)
      · replace hF := (okB_if hF).2 hc
        refine v_iconst (pc := 28) (v := (0 : Int32)) dL_isShown_28 rfl ?_
        exact v_lle [some (sr c0), none, some (si a.1), none] ⟨rfl, rfl, trivial⟩ (hj3 (0 : Int32) (okB_some hF))
      replace hF := (okB_if hF).1 hc
      refine v_iconst (pc := 24) (v := (1 : Int32)) dL_isShown_24 rfl ?_
      refine v_goto (pc := 25) 29 dL_isShown_25 rfl ?_
      exact v_lle [some (sr c0), none, some (si a.1), none] ⟨rfl, rfl, trivial⟩ (hj3 (1 : Int32) (okB_some hF))
    refine v_istore_n (pc := 29) (i := 3) [some (sr c0), none, some (si a.1), some (si q2)] dL_isShown_29 rfl (by decide) rfl rfl ?_
    refine v_aload_n (pc := 30) (i := 0) dL_isShown_30 rfl rfl ?_
    refine v_bipush (pc := 31) (v := (6 : Int32)) dL_isShown_31 rfl ?_
    refine v_iload_n (pc := 33) (i := 2) dL_isShown_33 rfl rfl ?_
    refine v_imul (pc := 34) dL_isShown_34 ?_
    refine v_iconst (pc := 35) (v := (1 : Int32)) dL_isShown_35 rfl ?_
    refine v_iadd (pc := 36) dL_isShown_36 ?_
    refine s_iald (pc := 37) dL_isShown_37 hF (fun x4 hF => ?_)
    refine v_istore_n (pc := 38) (i := 2) [some (sr c0), none, some (si x4), some (si q2)] dL_isShown_38 rfl (by decide) rfl rfl ?_
    refine v_goto (pc := 39) 8 dL_isShown_39 rfl ?_
    exact v_lle [some (sr c0), none, some (si x4), some (si q2)] ⟨rfl, rfl, rfl, trivial⟩ (hL (x4, q2) (okB_some hF)))
theorem tL_isShown {G : gG} (a0 : (Option Nat)) (a1 : Int32) (h : hp) (Q : hQ) (hF : okB (fL_isShown a0 a1 h) (pP gI Q h)) : gS G mL_isShown 1 0 0 [sr a0, si a1] h Q := by
  delta fL_isShown at hF
  refine gS_at [some (sr a0), some (si a1), none, none] pl_L rfl (Nat.le_of_ble_eq_true rfl) rfl ?_
  refine v_iload_n (pc := 0) (i := 1) dL_isShown_0 rfl rfl ?_
  refine v_istore_n (pc := 1) (i := 2) [some (sr a0), some (si a1), some (si a1), none] dL_isShown_1 rfl (by decide) rfl rfl ?_
  refine v_aload_n (pc := 2) (i := 0) dL_isShown_2 rfl rfl ?_
  refine v_iload_n (pc := 3) (i := 1) dL_isShown_3 rfl rfl ?_
  refine cp_S (pc := 4) gI (as := [sr a0, si a1]) (st := []) (N := mL_isThere) (k := 0) (n := 0) (k1 := 0) (n1 := 0) dL_isShown_4 lkL_7 caL_isThere csL_isThere rfl (fun Q1 hq => tL_isThere a0 a1 h Q1 hq) ⟨by decide, by decide⟩ (Nat.le_of_ble_eq_true rfl) rfl hF (fun x1 hF => ?_)
  show gV G mL_isShown 1 Q 7 [some (sr a0), some (si a1), some (si a1), none] [si x1] (0) (0) h
  refine v_istore_n (pc := 7) (i := 3) [some (sr a0), some (si a1), some (si a1), some (si x1)] dL_isShown_7 rfl (by decide) rfl rfl ?_
  refine mg (X := fun q2 => gV G mL_isShown 1 Q 42 [none, none, none, some (si q2)] [] (0) (0) h) hF (fun _ hj3 hF => v_lle [some (sr a0), none, some (si a1), some (si x1)] ⟨rfl, rfl, rfl, trivial⟩ (lL_isShown_8 a0 h hj3 FU (a1, x1) hF)) (fun q2 hF => ?_)
  refine v_iload_n (pc := 42) (i := 3) dL_isShown_42 rfl rfl ?_
  exact s_zret (pc := 43) dL_isShown_43 rfl hF (fun hF => (okr hF fun q => q))
/-! BrailleDeskLaw.level -/
theorem lL_level_2 {G : gG} {Q : hQ} {P : Int32 → Prop} {k n : Nat} (c0 : (Option Nat)) (h : hp) (hJ : ∀ q : Int32, P q → gV G mL_level 0 Q 29 [some (sr c0), none, some (si q)] [] (k) (n) h) : ∀ (fu : Nat) (a : Int32), okB (itr (fL_level_B2 c0 h) fu a) P → gV G mL_level 0 Q 2 [some (sr c0), none, some (si a)] [] (k) (n) h :=
  lpg (X := fun (a : Int32) => gV G mL_level 0 Q 2 [some (sr c0), none, some (si a)] [] (k) (n) h) (fun a P2 hL hE hF => by
    delta fL_level_B2 at hF
    refine v_iload_n (pc := 2) (i := 2) dL_level_2 rfl rfl ?_
    refine v_if_lt (pc := 3) 29 dL_level_3 rfl (fun hc => ?_) (fun hc => ?_)
    · replace hF := (okB_if hF).1 hc
      exact v_lle [some (sr c0), none, some (si a)] ⟨rfl, rfl, trivial⟩ (hJ a (hE _ (okB_some hF)))
    replace hF := (okB_if hF).2 hc
    refine v_aload_n (pc := 6) (i := 0) dL_level_6 rfl rfl ?_
    refine v_bipush (pc := 7) (v := (6 : Int32)) dL_level_7 rfl ?_
    refine v_iload_n (pc := 9) (i := 2) dL_level_9 rfl rfl ?_
    refine v_imul (pc := 10) dL_level_10 ?_
    refine v_iconst (pc := 11) (v := (4 : Int32)) dL_level_11 rfl ?_
    refine v_iadd (pc := 12) dL_level_12 ?_
    refine s_iald (pc := 13) dL_level_13 hF (fun x1 hF => ?_)
    refine v_if_ne (pc := 14) 29 dL_level_14 rfl (fun hc => ?_) (fun hc => ?_)
    · replace hF := (okB_if hF).2 hc
      exact v_lle [some (sr c0), none, some (si a)] ⟨rfl, rfl, trivial⟩ (hJ a (hE _ (okB_some hF)))
    replace hF := (okB_if hF).1 hc
    refine v_aload_n (pc := 17) (i := 0) dL_level_17 rfl rfl ?_
    refine v_bipush (pc := 18) (v := (6 : Int32)) dL_level_18 rfl ?_
    refine v_iload_n (pc := 20) (i := 2) dL_level_20 rfl rfl ?_
    refine v_imul (pc := 21) dL_level_21 ?_
    refine v_iconst (pc := 22) (v := (1 : Int32)) dL_level_22 rfl ?_
    refine v_iadd (pc := 23) dL_level_23 ?_
    refine s_iald (pc := 24) dL_level_24 hF (fun x2 hF => ?_)
    refine v_istore_n (pc := 25) (i := 2) [some (sr c0), none, some (si x2)] dL_level_25 rfl (by decide) rfl rfl ?_
    refine v_goto (pc := 26) 2 dL_level_26 rfl ?_
    exact v_lle [some (sr c0), none, some (si x2)] ⟨rfl, rfl, trivial⟩ (hL x2 (okB_some hF)))
theorem tL_level {G : gG} (a0 : (Option Nat)) (a1 : Int32) (h : hp) (Q : hQ) (hF : okB (fL_level a0 a1 h) (pP gI Q h)) : gS G mL_level 0 0 0 [sr a0, si a1] h Q := by
  delta fL_level at hF
  refine gS_at [some (sr a0), some (si a1), none] pl_L rfl (Nat.le_of_ble_eq_true rfl) rfl ?_
  refine v_iload_n (pc := 0) (i := 1) dL_level_0 rfl rfl ?_
  refine v_istore_n (pc := 1) (i := 2) [some (sr a0), some (si a1), some (si a1)] dL_level_1 rfl (by decide) rfl rfl ?_
  refine mg (X := fun q1 => gV G mL_level 0 Q 29 [some (sr a0), none, some (si q1)] [] (0) (0) h) hF (fun _ hj3 hF => v_lle [some (sr a0), none, some (si a1)] ⟨rfl, rfl, trivial⟩ (lL_level_2 a0 h hj3 FU a1 hF)) (fun q1 hF => ?_)
  refine v_iload_n (pc := 29) (i := 2) dL_level_29 rfl rfl ?_
  refine v_if_ge (pc := 30) 37 dL_level_30 rfl (fun hc => ?_) (fun hc => ?_)
  · replace hF := (okB_if hF).1 hc
    refine v_aload_n (pc := 37) (i := 0) dL_level_37 rfl rfl ?_
    refine v_bipush (pc := 38) (v := (6 : Int32)) dL_level_38 rfl ?_
    refine v_iload_n (pc := 40) (i := 2) dL_level_40 rfl rfl ?_
    refine v_imul (pc := 41) dL_level_41 ?_
    refine v_iconst (pc := 42) (v := (4 : Int32)) dL_level_42 rfl ?_
    refine v_iadd (pc := 43) dL_level_43 ?_
    refine s_iald (pc := 44) dL_level_44 hF (fun x2 hF => ?_)
    refine v_iconst (pc := 45) (v := (1 : Int32)) dL_level_45 rfl ?_
    refine v_isub (pc := 46) dL_level_46 ?_
    exact v_iret (pc := 47) dL_level_47 rfl rfl (okr hF fun q => q)
  replace hF := (okB_if hF).2 hc
  refine v_iconst (pc := 33) (v := (1 : Int32)) dL_level_33 rfl ?_
  refine v_goto (pc := 34) 47 dL_level_34 rfl ?_
  exact v_iret (pc := 47) dL_level_47 rfl rfl (okr hF fun q => q)
/-! BrailleDeskLaw.kid -/
theorem lL_kid_6 {G : gG} {Q : hQ} {P : Int32 → Prop} {k n : Nat} (c0 : (Option Nat)) (c1 : (Option Nat)) (c2 : Int32) (c3 : Int32) (c4 : Int32) (h : hp) (hJ : ∀ q : Int32, P q → gV G mL_kid 1 Q 116 [none, none, none, none, none, some (si q), none, none] [] (k) (n) h) : ∀ (fu : Nat) (a : (Int32 × Int32)), okB (itr (fL_kid_B6 c0 c1 c2 c3 c4 h) fu a) P → gV G mL_kid 1 Q 6 [some (sr c0), some (sr c1), some (si c2), some (si c3), some (si c4), some (si a.1), some (si a.2), none] [] (k) (n) h :=
  lpg (X := fun (a : (Int32 × Int32)) => gV G mL_kid 1 Q 6 [some (sr c0), some (sr c1), some (si c2), some (si c3), some (si c4), some (si a.1), some (si a.2), none] [] (k) (n) h) (fun a P2 hL hE hF => by
    delta fL_kid_B6 at hF
    refine v_iload (pc := 6) (i := 6) dL_kid_6 rfl ?_
    refine v_aload_n (pc := 8) (i := 0) dL_kid_8 rfl rfl ?_
    refine v_iconst (pc := 9) (v := (0 : Int32)) dL_kid_9 rfl ?_
    refine s_iald (pc := 10) dL_kid_10 hF (fun x1 hF => ?_)
    refine v_icmp_ge (pc := 11) 116 dL_kid_11 rfl (fun hc => ?_) (fun hc => ?_)
    · replace hF := (okB_if hF).1 hc
      exact v_lle [none, none, none, none, none, some (si a.1), none, none] ⟨rfl, trivial⟩ (hJ a.1 (hE _ (okB_some hF)))
    replace hF := (okB_if hF).2 hc
    refine v_aload_n (pc := 14) (i := 1) dL_kid_14 rfl rfl ?_
    refine v_iload (pc := 15) (i := 6) dL_kid_15 rfl ?_
    refine cp_S (pc := 17) gI (as := [sr c1, si a.2]) (st := []) (N := mL_isThere) (k := k) (n := n) (k1 := 0) (n1 := 0) dL_kid_17 lkL_7 caL_isThere csL_isThere rfl (fun Q1 hq => tL_isThere c1 a.2 h Q1 hq) ⟨by decide, by decide⟩ (Nat.le_of_ble_eq_true rfl) rfl hF (fun x2 hF => ?_)
    show gV G mL_kid 1 Q 20 [some (sr c0), some (sr c1), some (si c2), some (si c3), some (si c4), some (si a.1), some (si a.2), none] [si x2] (k) (n) h
    refine mg (X := fun q3 => gV G mL_kid 1 Q 68 [some (sr c0), some (sr c1), some (si c2), some (si c3), some (si c4), some (si a.1), some (si a.2), none] [si q3] (k) (n) h) hF (fun _ hj4 hF => ?_) (fun q3 hF => ?_)
    · refine v_if_eq (pc := 20) 67 dL_kid_20 rfl (fun hc => ?_) (fun hc => ?_)
      · replace hF := (okB_if hF).1 hc
        refine v_iconst (pc := 67) (v := (0 : Int32)) dL_kid_67 rfl ?_
        exact v_lle [some (sr c0), some (sr c1), some (si c2), some (si c3), some (si c4), some (si a.1), some (si a.2), none] ⟨rfl, rfl, rfl, rfl, rfl, rfl, rfl, trivial⟩ (hj4 (0 : Int32) (okB_some hF))
      replace hF := (okB_if hF).2 hc
      refine v_aload_n (pc := 23) (i := 1) dL_kid_23 rfl rfl ?_
      refine v_bipush (pc := 24) (v := (6 : Int32)) dL_kid_24 rfl ?_
      refine v_iload (pc := 26) (i := 6) dL_kid_26 rfl ?_
      refine v_imul (pc := 28) dL_kid_28 ?_
      refine v_iconst (pc := 29) (v := (1 : Int32)) dL_kid_29 rfl ?_
      refine v_iadd (pc := 30) dL_kid_30 ?_
      refine s_iald (pc := 31) dL_kid_31 hF (fun x5 hF => ?_)
      refine v_iload_n (pc := 32) (i := 2) dL_kid_32 rfl rfl ?_
      refine v_icmp_ne (pc := 33) 67 dL_kid_33 rfl (fun hc => ?_) (fun hc => ?_)
      · replace hF := (okB_if hF).2 hc
        refine v_iconst (pc := 67) (v := (0 : Int32)) dL_kid_67 rfl ?_
        exact v_lle [some (sr c0), some (sr c1), some (si c2), some (si c3), some (si c4), some (si a.1), some (si a.2), none] ⟨rfl, rfl, rfl, rfl, rfl, rfl, rfl, trivial⟩ (hj4 (0 : Int32) (okB_some hF))
      replace hF := (okB_if hF).1 hc
      refine v_aload_n (pc := 36) (i := 1) dL_kid_36 rfl rfl ?_
      refine v_bipush (pc := 37) (v := (6 : Int32)) dL_kid_37 rfl ?_
      refine v_iload (pc := 39) (i := 6) dL_kid_39 rfl ?_
      refine v_imul (pc := 41) dL_kid_41 ?_
      refine v_iconst (pc := 42) (v := (2 : Int32)) dL_kid_42 rfl ?_
      refine v_iadd (pc := 43) dL_kid_43 ?_
      refine s_iald (pc := 44) dL_kid_44 hF (fun x6 hF => ?_)
      refine v_iload_n (pc := 45) (i := 3) dL_kid_45 rfl rfl ?_
      refine v_icmp_lt (pc := 46) 67 dL_kid_46 rfl (fun hc => ?_) (fun hc => ?_)
      · replace hF := (okB_if hF).1 hc
        refine v_iconst (pc := 67) (v := (0 : Int32)) dL_kid_67 rfl ?_
        exact v_lle [some (sr c0), some (sr c1), some (si c2), some (si c3), some (si c4), some (si a.1), some (si a.2), none] ⟨rfl, rfl, rfl, rfl, rfl, rfl, rfl, trivial⟩ (hj4 (0 : Int32) (okB_some hF))
      replace hF := (okB_if hF).2 hc
      refine v_iload (pc := 49) (i := 4) dL_kid_49 rfl ?_
      refine v_if_ne (pc := 51) 63 dL_kid_51 rfl (fun hc => ?_) (fun hc => ?_)
      · replace hF := (okB_if hF).2 hc
        refine v_iconst (pc := 63) (v := (1 : Int32)) dL_kid_63 rfl ?_
        refine v_goto (pc := 64) 68 dL_kid_64 rfl ?_
        exact v_lle [some (sr c0), some (sr c1), some (si c2), some (si c3), some (si c4), some (si a.1), some (si a.2), none] ⟨rfl, rfl, rfl, rfl, rfl, rfl, rfl, trivial⟩ (hj4 (1 : Int32) (okB_some hF))
      replace hF := (okB_if hF).1 hc
      refine v_aload_n (pc := 54) (i := 1) dL_kid_54 rfl rfl ?_
      refine v_iload (pc := 55) (i := 6) dL_kid_55 rfl ?_
      refine cp_S (pc := 57) gI (as := [sr c1, si a.2]) (st := []) (N := mL_isHidden) (k := k) (n := n) (k1 := 0) (n1 := 0) dL_kid_57 lkL_13 caL_isHidden csL_isHidden rfl (fun Q1 hq => tL_isHidden c1 a.2 h Q1 hq) ⟨by decide, by decide⟩ (Nat.le_of_ble_eq_true rfl) rfl hF (fun x7 hF => ?_)
      show gV G mL_kid 1 Q 60 [some (sr c0), some (sr c1), some (si c2), some (si c3), some (si c4), some (si a.1), some (si a.2), none] [si x7] (k) (n) h
      refine v_if_ne (pc := 60) 67 dL_kid_60 rfl (fun hc => ?_) (fun hc => ?_)
      · replace hF := (okB_if hF).2 hc
        refine v_iconst (pc := 67) (v := (0 : Int32)) dL_kid_67 rfl ?_
        exact v_lle [some (sr c0), some (sr c1), some (si c2), some (si c3), some (si c4), some (si a.1), some (si a.2), none] ⟨rfl, rfl, rfl, rfl, rfl, rfl, rfl, trivial⟩ (hj4 (0 : Int32) (okB_some hF))
      replace hF := (okB_if hF).1 hc
      refine v_iconst (pc := 63) (v := (1 : Int32)) dL_kid_63 rfl ?_
      refine v_goto (pc := 64) 68 dL_kid_64 rfl ?_
      exact v_lle [some (sr c0), some (sr c1), some (si c2), some (si c3), some (si c4), some (si a.1), some (si a.2), none] ⟨rfl, rfl, rfl, rfl, rfl, rfl, rfl, trivial⟩ (hj4 (1 : Int32) (okB_some hF))
    refine v_istore (pc := 68) (i := 7) [some (sr c0), some (sr c1), some (si c2), some (si c3), some (si c4), some (si a.1), some (si a.2), some (si q3)] dL_kid_68 (by decide) rfl rfl ?_
    refine v_iload (pc := 70) (i := 7) dL_kid_70 rfl ?_
    refine v_if_eq (pc := 72) 106 dL_kid_72 rfl (fun hc => ?_) (fun hc => ?_)
    · replace hF := (okB_if hF).1 hc
      refine v_iload (pc := 106) (i := 5) dL_kid_106 rfl ?_
      refine v_istore (pc := 108) (i := 5) [some (sr c0), some (sr c1), some (si c2), some (si c3), some (si c4), some (si a.1), some (si a.2), some (si q3)] dL_kid_108 (by decide) rfl rfl ?_
      refine v_iinc (pc := 110) (i := 6) (a.2 + (1 : Int32)) [some (sr c0), some (sr c1), some (si c2), some (si c3), some (si c4), some (si a.1), some (si (a.2 + (1 : Int32))), some (si q3)] dL_kid_110 rfl rfl rfl rfl ?_
      refine v_goto (pc := 113) 6 dL_kid_113 rfl ?_
      exact v_lle [some (sr c0), some (sr c1), some (si c2), some (si c3), some (si c4), some (si a.1), some (si (a.2 + (1 : Int32))), none] ⟨rfl, rfl, rfl, rfl, rfl, rfl, rfl, trivial⟩ (hL (a.1, a.2 + (1 : Int32)) (okB_some hF))
    replace hF := (okB_if hF).2 hc
    refine v_iload (pc := 75) (i := 5) dL_kid_75 rfl ?_
    refine v_if_lt (pc := 77) 101 dL_kid_77 rfl (fun hc => ?_) (fun hc => ?_)
    · replace hF := (okB_if hF).1 hc
      refine v_iload (pc := 101) (i := 6) dL_kid_101 rfl ?_
      refine v_goto (pc := 103) 108 dL_kid_103 rfl ?_
      refine v_istore (pc := 108) (i := 5) [some (sr c0), some (sr c1), some (si c2), some (si c3), some (si c4), some (si a.2), some (si a.2), some (si q3)] dL_kid_108 (by decide) rfl rfl ?_
      refine v_iinc (pc := 110) (i := 6) (a.2 + (1 : Int32)) [some (sr c0), some (sr c1), some (si c2), some (si c3), some (si c4), some (si a.2), some (si (a.2 + (1 : Int32))), some (si q3)] dL_kid_110 rfl rfl rfl rfl ?_
      refine v_goto (pc := 113) 6 dL_kid_113 rfl ?_
      exact v_lle [some (sr c0), some (sr c1), some (si c2), some (si c3), some (si c4), some (si a.2), some (si (a.2 + (1 : Int32))), none] ⟨rfl, rfl, rfl, rfl, rfl, rfl, rfl, trivial⟩ (hL (a.2, a.2 + (1 : Int32)) (okB_some hF))
    replace hF := (okB_if hF).2 hc
    refine v_aload_n (pc := 80) (i := 1) dL_kid_80 rfl rfl ?_
    refine v_bipush (pc := 81) (v := (6 : Int32)) dL_kid_81 rfl ?_
    refine v_iload (pc := 83) (i := 6) dL_kid_83 rfl ?_
    refine v_imul (pc := 85) dL_kid_85 ?_
    refine v_iconst (pc := 86) (v := (2 : Int32)) dL_kid_86 rfl ?_
    refine v_iadd (pc := 87) dL_kid_87 ?_
    refine s_iald (pc := 88) dL_kid_88 hF (fun x8 hF => ?_)
    refine v_aload_n (pc := 89) (i := 1) dL_kid_89 rfl rfl ?_
    refine v_bipush (pc := 90) (v := (6 : Int32)) dL_kid_90 rfl ?_
    refine v_iload (pc := 92) (i := 5) dL_kid_92 rfl ?_
    refine v_imul (pc := 94) dL_kid_94 ?_
    refine v_iconst (pc := 95) (v := (2 : Int32)) dL_kid_95 rfl ?_
    refine v_iadd (pc := 96) dL_kid_96 ?_
    refine s_iald (pc := 97) dL_kid_97 hF (fun x9 hF => ?_)
    refine v_icmp_ge (pc := 98) 106 dL_kid_98 rfl (fun hc => ?_) (fun hc => ?_)
    · replace hF := (okB_if hF).1 hc
      refine v_iload (pc := 106) (i := 5) dL_kid_106 rfl ?_
      refine v_istore (pc := 108) (i := 5) [some (sr c0), some (sr c1), some (si c2), some (si c3), some (si c4), some (si a.1), some (si a.2), some (si q3)] dL_kid_108 (by decide) rfl rfl ?_
      refine v_iinc (pc := 110) (i := 6) (a.2 + (1 : Int32)) [some (sr c0), some (sr c1), some (si c2), some (si c3), some (si c4), some (si a.1), some (si (a.2 + (1 : Int32))), some (si q3)] dL_kid_110 rfl rfl rfl rfl ?_
      refine v_goto (pc := 113) 6 dL_kid_113 rfl ?_
      exact v_lle [some (sr c0), some (sr c1), some (si c2), some (si c3), some (si c4), some (si a.1), some (si (a.2 + (1 : Int32))), none] ⟨rfl, rfl, rfl, rfl, rfl, rfl, rfl, trivial⟩ (hL (a.1, a.2 + (1 : Int32)) (okB_some hF))
    replace hF := (okB_if hF).2 hc
    refine v_iload (pc := 101) (i := 6) dL_kid_101 rfl ?_
    refine v_goto (pc := 103) 108 dL_kid_103 rfl ?_
    refine v_istore (pc := 108) (i := 5) [some (sr c0), some (sr c1), some (si c2), some (si c3), some (si c4), some (si a.2), some (si a.2), some (si q3)] dL_kid_108 (by decide) rfl rfl ?_
    refine v_iinc (pc := 110) (i := 6) (a.2 + (1 : Int32)) [some (sr c0), some (sr c1), some (si c2), some (si c3), some (si c4), some (si a.2), some (si (a.2 + (1 : Int32))), some (si q3)] dL_kid_110 rfl rfl rfl rfl ?_
    refine v_goto (pc := 113) 6 dL_kid_113 rfl ?_
    exact v_lle [some (sr c0), some (sr c1), some (si c2), some (si c3), some (si c4), some (si a.2), some (si (a.2 + (1 : Int32))), none] ⟨rfl, rfl, rfl, rfl, rfl, rfl, rfl, trivial⟩ (hL (a.2, a.2 + (1 : Int32)) (okB_some hF)))
theorem tL_kid {G : gG} (a0 : (Option Nat)) (a1 : (Option Nat)) (a2 : Int32) (a3 : Int32) (a4 : Int32) (h : hp) (Q : hQ) (hF : okB (fL_kid a0 a1 a2 a3 a4 h) (pP gI Q h)) : gS G mL_kid 1 0 0 [sr a0, sr a1, si a2, si a3, si a4] h Q := by
  delta fL_kid at hF
  refine gS_at [some (sr a0), some (sr a1), some (si a2), some (si a3), some (si a4), none, none, none] pl_L rfl (Nat.le_of_ble_eq_true rfl) rfl ?_
  refine v_iconst (pc := 0) (v := (-1 : Int32)) dL_kid_0 rfl ?_
  refine v_istore (pc := 1) (i := 5) [some (sr a0), some (sr a1), some (si a2), some (si a3), some (si a4), some (si (-1 : Int32)), none, none] dL_kid_1 (by decide) rfl rfl ?_
  refine v_iconst (pc := 3) (v := (0 : Int32)) dL_kid_3 rfl ?_
  refine v_istore (pc := 4) (i := 6) [some (sr a0), some (sr a1), some (si a2), some (si a3), some (si a4), some (si (-1 : Int32)), some (si (0 : Int32)), none] dL_kid_4 (by decide) rfl rfl ?_
  refine mg (X := fun q1 => gV G mL_kid 1 Q 116 [none, none, none, none, none, some (si q1), none, none] [] (0) (0) h) hF (fun _ hj2 hF => v_lle [some (sr a0), some (sr a1), some (si a2), some (si a3), some (si a4), some (si (-1 : Int32)), some (si (0 : Int32)), none] ⟨rfl, rfl, rfl, rfl, rfl, rfl, rfl, trivial⟩ (lL_kid_6 a0 a1 a2 a3 a4 h hj2 FU ((-1 : Int32), (0 : Int32)) hF)) (fun q1 hF => ?_)
  refine v_iload (pc := 116) (i := 5) dL_kid_116 rfl ?_
  exact v_iret (pc := 118) dL_kid_118 rfl rfl (okr hF fun q => q)
/-! BrailleDeskLaw.kids -/
theorem lL_kids_5 {G : gG} {Q : hQ} {P : Int32 → Prop} {k n : Nat} (c0 : (Option Nat)) (c1 : (Option Nat)) (c2 : Int32) (h : hp) (hJ : ∀ q : Int32, P q → gV G mL_kids 1 Q 49 [none, none, none, some (si q), none] [] (k) (n) h) : ∀ (fu : Nat) (a : (Int32 × Int32)), okB (itr (fL_kids_B5 c0 c1 c2 h) fu a) P → gV G mL_kids 1 Q 5 [some (sr c0), some (sr c1), some (si c2), some (si a.1), some (si a.2)] [] (k) (n) h :=
  lpg (X := fun (a : (Int32 × Int32)) => gV G mL_kids 1 Q 5 [some (sr c0), some (sr c1), some (si c2), some (si a.1), some (si a.2)] [] (k) (n) h) (fun a P2 hL hE hF => by
    delta fL_kids_B5 at hF
    refine v_iload (pc := 5) (i := 4) dL_kids_5 rfl ?_
    refine v_aload_n (pc := 7) (i := 0) dL_kids_7 rfl rfl ?_
    refine v_iconst (pc := 8) (v := (0 : Int32)) dL_kids_8 rfl ?_
    refine s_iald (pc := 9) dL_kids_9 hF (fun x1 hF => ?_)
    refine v_icmp_ge (pc := 10) 49 dL_kids_10 rfl (fun hc => ?_) (fun hc => ?_)
    · replace hF := (okB_if hF).1 hc
      exact v_lle [none, none, none, some (si a.1), none] ⟨rfl, trivial⟩ (hJ a.1 (hE _ (okB_some hF)))
    replace hF := (okB_if hF).2 hc
    refine v_iload_n (pc := 13) (i := 3) dL_kids_13 rfl rfl ?_
    refine v_aload_n (pc := 14) (i := 1) dL_kids_14 rfl rfl ?_
    refine v_iload (pc := 15) (i := 4) dL_kids_15 rfl ?_
    refine cp_S (pc := 17) gI (as := [sr c1, si a.2]) (st := [si a.1]) (N := mL_isThere) (k := k) (n := n) (k1 := 0) (n1 := 0) dL_kids_17 lkL_7 caL_isThere csL_isThere rfl (fun Q1 hq => tL_isThere c1 a.2 h Q1 hq) ⟨by decide, by decide⟩ (Nat.le_of_ble_eq_true rfl) rfl hF (fun x2 hF => ?_)
    show gV G mL_kids 1 Q 20 [some (sr c0), some (sr c1), some (si c2), some (si a.1), some (si a.2)] [si x2, si a.1] (k) (n) h
    refine v_if_eq (pc := 20) 40 dL_kids_20 rfl (fun hc => ?_) (fun hc => ?_)
    · replace hF := (okB_if hF).1 hc
      refine v_iconst (pc := 40) (v := (0 : Int32)) dL_kids_40 rfl ?_
      refine v_iadd (pc := 41) dL_kids_41 ?_
      refine v_istore_n (pc := 42) (i := 3) [some (sr c0), some (sr c1), some (si c2), some (si (a.1 + (0 : Int32))), some (si a.2)] dL_kids_42 rfl (by decide) rfl rfl ?_
      refine v_iinc (pc := 43) (i := 4) (a.2 + (1 : Int32)) [some (sr c0), some (sr c1), some (si c2), some (si (a.1 + (0 : Int32))), some (si (a.2 + (1 : Int32)))] dL_kids_43 rfl rfl rfl rfl ?_
      refine v_goto (pc := 46) 5 dL_kids_46 rfl ?_
      exact v_lle [some (sr c0), some (sr c1), some (si c2), some (si (a.1 + (0 : Int32))), some (si (a.2 + (1 : Int32)))] ⟨rfl, rfl, rfl, rfl, rfl, trivial⟩ (hL (a.1 + (0 : Int32), a.2 + (1 : Int32)) (okB_some hF))
    replace hF := (okB_if hF).2 hc
    refine v_aload_n (pc := 23) (i := 1) dL_kids_23 rfl rfl ?_
    refine v_bipush (pc := 24) (v := (6 : Int32)) dL_kids_24 rfl ?_
    refine v_iload (pc := 26) (i := 4) dL_kids_26 rfl ?_
    refine v_imul (pc := 28) dL_kids_28 ?_
    refine v_iconst (pc := 29) (v := (1 : Int32)) dL_kids_29 rfl ?_
    refine v_iadd (pc := 30) dL_kids_30 ?_
    refine s_iald (pc := 31) dL_kids_31 hF (fun x3 hF => ?_)
    refine v_iload_n (pc := 32) (i := 2) dL_kids_32 rfl rfl ?_
    refine v_icmp_ne (pc := 33) 40 dL_kids_33 rfl (fun hc => ?_) (fun hc => ?_)
    · replace hF := (okB_if hF).2 hc
      refine v_iconst (pc := 40) (v := (0 : Int32)) dL_kids_40 rfl ?_
      refine v_iadd (pc := 41) dL_kids_41 ?_
      refine v_istore_n (pc := 42) (i := 3) [some (sr c0), some (sr c1), some (si c2), some (si (a.1 + (0 : Int32))), some (si a.2)] dL_kids_42 rfl (by decide) rfl rfl ?_
      refine v_iinc (pc := 43) (i := 4) (a.2 + (1 : Int32)) [some (sr c0), some (sr c1), some (si c2), some (si (a.1 + (0 : Int32))), some (si (a.2 + (1 : Int32)))] dL_kids_43 rfl rfl rfl rfl ?_
      refine v_goto (pc := 46) 5 dL_kids_46 rfl ?_
      exact v_lle [some (sr c0), some (sr c1), some (si c2), some (si (a.1 + (0 : Int32))), some (si (a.2 + (1 : Int32)))] ⟨rfl, rfl, rfl, rfl, rfl, trivial⟩ (hL (a.1 + (0 : Int32), a.2 + (1 : Int32)) (okB_some hF))
    replace hF := (okB_if hF).1 hc
    refine v_iconst (pc := 36) (v := (1 : Int32)) dL_kids_36 rfl ?_
    refine v_goto (pc := 37) 41 dL_kids_37 rfl ?_
    refine v_iadd (pc := 41) dL_kids_41 ?_
    refine v_istore_n (pc := 42) (i := 3) [some (sr c0), some (sr c1), some (si c2), some (si (a.1 + (1 : Int32))), some (si a.2)] dL_kids_42 rfl (by decide) rfl rfl ?_
    refine v_iinc (pc := 43) (i := 4) (a.2 + (1 : Int32)) [some (sr c0), some (sr c1), some (si c2), some (si (a.1 + (1 : Int32))), some (si (a.2 + (1 : Int32)))] dL_kids_43 rfl rfl rfl rfl ?_
    refine v_goto (pc := 46) 5 dL_kids_46 rfl ?_
    exact v_lle [some (sr c0), some (sr c1), some (si c2), some (si (a.1 + (1 : Int32))), some (si (a.2 + (1 : Int32)))] ⟨rfl, rfl, rfl, rfl, rfl, trivial⟩ (hL (a.1 + (1 : Int32), a.2 + (1 : Int32)) (okB_some hF)))
theorem tL_kids {G : gG} (a0 : (Option Nat)) (a1 : (Option Nat)) (a2 : Int32) (h : hp) (Q : hQ) (hF : okB (fL_kids a0 a1 a2 h) (pP gI Q h)) : gS G mL_kids 1 0 0 [sr a0, sr a1, si a2] h Q := by
  delta fL_kids at hF
  refine gS_at [some (sr a0), some (sr a1), some (si a2), none, none] pl_L rfl (Nat.le_of_ble_eq_true rfl) rfl ?_
  refine v_iconst (pc := 0) (v := (0 : Int32)) dL_kids_0 rfl ?_
  refine v_istore_n (pc := 1) (i := 3) [some (sr a0), some (sr a1), some (si a2), some (si (0 : Int32)), none] dL_kids_1 rfl (by decide) rfl rfl ?_
  refine v_iconst (pc := 2) (v := (0 : Int32)) dL_kids_2 rfl ?_
  refine v_istore (pc := 3) (i := 4) [some (sr a0), some (sr a1), some (si a2), some (si (0 : Int32)), some (si (0 : Int32))] dL_kids_3 (by decide) rfl rfl ?_
  refine mg (X := fun q1 => gV G mL_kids 1 Q 49 [none, none, none, some (si q1), none] [] (0) (0) h) hF (fun _ hj2 hF => v_lle [some (sr a0), some (sr a1), some (si a2), some (si (0 : Int32)), some (si (0 : Int32))] ⟨rfl, rfl, rfl, rfl, rfl, trivial⟩ (lL_kids_5 a0 a1 a2 h hj2 FU ((0 : Int32), (0 : Int32)) hF)) (fun q1 hF => ?_)
  refine v_iload_n (pc := 49) (i := 3) dL_kids_49 rfl rfl ?_
  exact v_iret (pc := 50) dL_kids_50 rfl rfl (okr hF fun q => q)
/-! BrailleDeskLaw.next -/
theorem lL_next_12 {G : gG} {Q : hQ} {P : Int32 → Prop} {k n : Nat} (c0 : (Option Nat)) (c1 : (Option Nat)) (h : hp) (hJ : ∀ q : Int32, P q → gV G mL_next 2 Q 59 [none, none, none, none, some (si q)] [] (k) (n) h) : ∀ (fu : Nat) (a : (Int32 × Int32)), okB (itr (fL_next_B12 c0 c1 h) fu a) P → gV G mL_next 2 Q 12 [some (sr c0), some (sr c1), none, some (si a.1), some (si a.2)] [] (k) (n) h :=
  lpg (X := fun (a : (Int32 × Int32)) => gV G mL_next 2 Q 12 [some (sr c0), some (sr c1), none, some (si a.1), some (si a.2)] [] (k) (n) h) (fun a P2 hL hE hF => by
    delta fL_next_B12 at hF
    refine v_iload (pc := 12) (i := 4) dL_next_12 rfl ?_
    refine v_if_ge (pc := 14) 59 dL_next_14 rfl (fun hc => ?_) (fun hc => ?_)
    · replace hF := (okB_if hF).1 hc
      exact v_lle [none, none, none, none, some (si a.2)] ⟨rfl, trivial⟩ (hJ a.2 (hE _ (okB_some hF)))
    replace hF := (okB_if hF).2 hc
    refine v_iload_n (pc := 17) (i := 3) dL_next_17 rfl rfl ?_
    refine v_if_le (pc := 18) 59 dL_next_18 rfl (fun hc => ?_) (fun hc => ?_)
    · replace hF := (okB_if hF).1 hc
      exact v_lle [none, none, none, none, some (si a.2)] ⟨rfl, trivial⟩ (hJ a.2 (hE _ (okB_some hF)))
    replace hF := (okB_if hF).2 hc
    refine v_aload_n (pc := 21) (i := 0) dL_next_21 rfl rfl ?_
    refine v_aload_n (pc := 22) (i := 1) dL_next_22 rfl rfl ?_
    refine v_aload_n (pc := 23) (i := 1) dL_next_23 rfl rfl ?_
    refine v_bipush (pc := 24) (v := (6 : Int32)) dL_next_24 rfl ?_
    refine v_iload_n (pc := 26) (i := 3) dL_next_26 rfl rfl ?_
    refine v_imul (pc := 27) dL_next_27 ?_
    refine v_iconst (pc := 28) (v := (1 : Int32)) dL_next_28 rfl ?_
    refine v_iadd (pc := 29) dL_next_29 ?_
    refine s_iald (pc := 30) dL_next_30 hF (fun x1 hF => ?_)
    refine v_aload_n (pc := 31) (i := 1) dL_next_31 rfl rfl ?_
    refine v_bipush (pc := 32) (v := (6 : Int32)) dL_next_32 rfl ?_
    refine v_iload_n (pc := 34) (i := 3) dL_next_34 rfl rfl ?_
    refine v_imul (pc := 35) dL_next_35 ?_
    refine v_iconst (pc := 36) (v := (2 : Int32)) dL_next_36 rfl ?_
    refine v_iadd (pc := 37) dL_next_37 ?_
    refine s_iald (pc := 38) dL_next_38 hF (fun x2 hF => ?_)
    refine v_iconst (pc := 39) (v := (1 : Int32)) dL_next_39 rfl ?_
    refine v_iadd (pc := 40) dL_next_40 ?_
    refine v_iconst (pc := 41) (v := (0 : Int32)) dL_next_41 rfl ?_
    refine cp_S (pc := 42) gI (as := [sr c0, sr c1, si x1, si (x2 + (1 : Int32)), si (0 : Int32)]) (st := []) (N := mL_kid) (k := k) (n := n) (k1 := 0) (n1 := 0) dL_next_42 lkL_16 caL_kid csL_kid rfl (fun Q1 hq => tL_kid c0 c1 x1 (x2 + (1 : Int32)) (0 : Int32) h Q1 hq) ⟨by decide, by decide⟩ (Nat.le_of_ble_eq_true rfl) rfl hF (fun x3 hF => ?_)
    show gV G mL_next 2 Q 45 [some (sr c0), some (sr c1), none, some (si a.1), some (si a.2)] [si x3] (k) (n) h
    refine v_istore (pc := 45) (i := 4) [some (sr c0), some (sr c1), none, some (si a.1), some (si x3)] dL_next_45 (by decide) rfl rfl ?_
    refine v_aload_n (pc := 47) (i := 1) dL_next_47 rfl rfl ?_
    refine v_bipush (pc := 48) (v := (6 : Int32)) dL_next_48 rfl ?_
    refine v_iload_n (pc := 50) (i := 3) dL_next_50 rfl rfl ?_
    refine v_imul (pc := 51) dL_next_51 ?_
    refine v_iconst (pc := 52) (v := (1 : Int32)) dL_next_52 rfl ?_
    refine v_iadd (pc := 53) dL_next_53 ?_
    refine s_iald (pc := 54) dL_next_54 hF (fun x4 hF => ?_)
    refine v_istore_n (pc := 55) (i := 3) [some (sr c0), some (sr c1), none, some (si x4), some (si x3)] dL_next_55 rfl (by decide) rfl rfl ?_
    refine v_goto (pc := 56) 12 dL_next_56 rfl ?_
    exact v_lle [some (sr c0), some (sr c1), none, some (si x4), some (si x3)] ⟨rfl, rfl, rfl, rfl, trivial⟩ (hL (x4, x3) (okB_some hF)))
theorem tL_next {G : gG} (a0 : (Option Nat)) (a1 : (Option Nat)) (a2 : Int32) (h : hp) (Q : hQ) (hF : okB (fL_next a0 a1 a2 h) (pP gI Q h)) : gS G mL_next 2 0 0 [sr a0, sr a1, si a2] h Q := by
  delta fL_next at hF
  refine gS_at [some (sr a0), some (sr a1), some (si a2), none, none] pl_L rfl (Nat.le_of_ble_eq_true rfl) rfl ?_
  refine v_iload_n (pc := 0) (i := 2) dL_next_0 rfl rfl ?_
  refine v_istore_n (pc := 1) (i := 3) [some (sr a0), some (sr a1), some (si a2), some (si a2), none] dL_next_1 rfl (by decide) rfl rfl ?_
  refine v_aload_n (pc := 2) (i := 0) dL_next_2 rfl rfl ?_
  refine v_aload_n (pc := 3) (i := 1) dL_next_3 rfl rfl ?_
  refine v_iload_n (pc := 4) (i := 3) dL_next_4 rfl rfl ?_
  refine v_iconst (pc := 5) (v := (0 : Int32)) dL_next_5 rfl ?_
  refine v_iconst (pc := 6) (v := (0 : Int32)) dL_next_6 rfl ?_
  refine cp_S (pc := 7) gI (as := [sr a0, sr a1, si a2, si (0 : Int32), si (0 : Int32)]) (st := []) (N := mL_kid) (k := 0) (n := 0) (k1 := 0) (n1 := 0) dL_next_7 lkL_16 caL_kid csL_kid rfl (fun Q1 hq => tL_kid a0 a1 a2 (0 : Int32) (0 : Int32) h Q1 hq) ⟨by decide, by decide⟩ (Nat.le_of_ble_eq_true rfl) rfl hF (fun x1 hF => ?_)
  show gV G mL_next 2 Q 10 [some (sr a0), some (sr a1), some (si a2), some (si a2), none] [si x1] (0) (0) h
  refine v_istore (pc := 10) (i := 4) [some (sr a0), some (sr a1), some (si a2), some (si a2), some (si x1)] dL_next_10 (by decide) rfl rfl ?_
  refine mg (X := fun q2 => gV G mL_next 2 Q 59 [none, none, none, none, some (si q2)] [] (0) (0) h) hF (fun _ hj3 hF => v_lle [some (sr a0), some (sr a1), none, some (si a2), some (si x1)] ⟨rfl, rfl, rfl, rfl, trivial⟩ (lL_next_12 a0 a1 h hj3 FU (a2, x1) hF)) (fun q2 hF => ?_)
  refine v_iload (pc := 59) (i := 4) dL_next_59 rfl ?_
  exact v_iret (pc := 61) dL_next_61 rfl rfl (okr hF fun q => q)
