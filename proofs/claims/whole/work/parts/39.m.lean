/-! ===== methods: their functions and rows ===== -/
theorem dX11_part_0 : decode cX11_part 0 = .ok (.iload_n 3, 1) := by decide +kernel
theorem dX11_part_1 : decode cX11_part 1 = .ok (.ifCond .le 7, 3) := by decide +kernel
theorem dX11_part_4 : decode cX11_part 4 = .ok (.aload_n 0, 1) := by decide +kernel
theorem dX11_part_5 : decode cX11_part 5 = .ok (.invokevirtual 150, 3) := by decide +kernel
theorem dX11_part_8 : decode cX11_part 8 = .ok (.iconst 0, 1) := by decide +kernel
theorem dX11_part_9 : decode cX11_part 9 = .ok (.istore 4, 2) := by decide +kernel
theorem dX11_part_11 : decode cX11_part 11 = .ok (.iload 4, 2) := by decide +kernel
theorem dX11_part_13 : decode cX11_part 13 = .ok (.iload_n 3, 1) := by decide +kernel
theorem dX11_part_14 : decode cX11_part 14 = .ok (.if_icmp .ge 19, 3) := by decide +kernel
theorem dX11_part_17 : decode cX11_part 17 = .ok (.aload_n 0, 1) := by decide +kernel
theorem dX11_part_18 : decode cX11_part 18 = .ok (.aload_n 1, 1) := by decide +kernel
theorem dX11_part_19 : decode cX11_part 19 = .ok (.iload_n 2, 1) := by decide +kernel
theorem dX11_part_20 : decode cX11_part 20 = .ok (.iload 4, 2) := by decide +kernel
theorem dX11_part_22 : decode cX11_part 22 = .ok (.iadd, 1) := by decide +kernel
theorem dX11_part_23 : decode cX11_part 23 = .ok (.iaload, 1) := by decide +kernel
theorem dX11_part_24 : decode cX11_part 24 = .ok (.invokevirtual 146, 3) := by decide +kernel
theorem dX11_part_27 : decode cX11_part 27 = .ok (.iinc 4 1, 3) := by decide +kernel
theorem dX11_part_30 : decode cX11_part 30 = .ok (.goto (-19), 3) := by decide +kernel
theorem dX11_part_33 : decode cX11_part 33 = .ok (.return_, 1) := by decide +kernel
theorem dX11_partName_0 : decode cX11_partName 0 = .ok (.aload_n 0, 1) := by decide +kernel
theorem dX11_partName_1 : decode cX11_partName 1 = .ok (.aload_n 0, 1) := by decide +kernel
theorem dX11_partName_2 : decode cX11_partName 2 = .ok (.getfield 26, 3) := by decide +kernel
theorem dX11_partName_5 : decode cX11_partName 5 = .ok (.bipush 12, 2) := by decide +kernel
theorem dX11_partName_7 : decode cX11_partName 7 = .ok (.iload_n 1, 1) := by decide +kernel
theorem dX11_partName_8 : decode cX11_partName 8 = .ok (.imul, 1) := by decide +kernel
theorem dX11_partName_9 : decode cX11_partName 9 = .ok (.aload_n 0, 1) := by decide +kernel
theorem dX11_partName_10 : decode cX11_partName 10 = .ok (.getfield 29, 3) := by decide +kernel
theorem dX11_partName_13 : decode cX11_partName 13 = .ok (.iload_n 1, 1) := by decide +kernel
theorem dX11_partName_14 : decode cX11_partName 14 = .ok (.iaload, 1) := by decide +kernel
theorem dX11_partName_15 : decode cX11_partName 15 = .ok (.invokevirtual 153, 3) := by decide +kernel
theorem dX11_partName_18 : decode cX11_partName 18 = .ok (.return_, 1) := by decide +kernel
theorem dX11_addNumber_0 : decode cX11_addNumber 0 = .ok (.iload_n 1, 1) := by decide +kernel
theorem dX11_addNumber_1 : decode cX11_addNumber 1 = .ok (.bipush 9, 2) := by decide +kernel
theorem dX11_addNumber_3 : decode cX11_addNumber 3 = .ok (.if_icmp .le 14, 3) := by decide +kernel
theorem dX11_addNumber_6 : decode cX11_addNumber 6 = .ok (.aload_n 0, 1) := by decide +kernel
theorem dX11_addNumber_7 : decode cX11_addNumber 7 = .ok (.bipush 48, 2) := by decide +kernel
theorem dX11_addNumber_9 : decode cX11_addNumber 9 = .ok (.iload_n 1, 1) := by decide +kernel
theorem dX11_addNumber_10 : decode cX11_addNumber 10 = .ok (.bipush 10, 2) := by decide +kernel
theorem dX11_addNumber_12 : decode cX11_addNumber 12 = .ok (.idiv, 1) := by decide +kernel
theorem dX11_addNumber_13 : decode cX11_addNumber 13 = .ok (.iadd, 1) := by decide +kernel
theorem dX11_addNumber_14 : decode cX11_addNumber 14 = .ok (.invokevirtual 146, 3) := by decide +kernel
theorem dX11_addNumber_17 : decode cX11_addNumber 17 = .ok (.aload_n 0, 1) := by decide +kernel
theorem dX11_addNumber_18 : decode cX11_addNumber 18 = .ok (.bipush 48, 2) := by decide +kernel
theorem dX11_addNumber_20 : decode cX11_addNumber 20 = .ok (.iload_n 1, 1) := by decide +kernel
theorem dX11_addNumber_21 : decode cX11_addNumber 21 = .ok (.bipush 10, 2) := by decide +kernel
theorem dX11_addNumber_23 : decode cX11_addNumber 23 = .ok (.irem, 1) := by decide +kernel
theorem dX11_addNumber_24 : decode cX11_addNumber 24 = .ok (.iadd, 1) := by decide +kernel
theorem dX11_addNumber_25 : decode cX11_addNumber 25 = .ok (.invokevirtual 146, 3) := by decide +kernel
theorem dX11_addNumber_28 : decode cX11_addNumber 28 = .ok (.return_, 1) := by decide +kernel
theorem dX11_partPlace_0 : decode cX11_partPlace 0 = .ok (.aload_n 0, 1) := by decide +kernel
theorem dX11_partPlace_1 : decode cX11_partPlace 1 = .ok (.getfield 17, 3) := by decide +kernel
theorem dX11_partPlace_4 : decode cX11_partPlace 4 = .ok (.iload_n 1, 1) := by decide +kernel
theorem dX11_partPlace_5 : decode cX11_partPlace 5 = .ok (.iaload, 1) := by decide +kernel
theorem dX11_partPlace_6 : decode cX11_partPlace 6 = .ok (.istore_n 2, 1) := by decide +kernel
theorem dX11_partPlace_7 : decode cX11_partPlace 7 = .ok (.iconst 0, 1) := by decide +kernel
theorem dX11_partPlace_8 : decode cX11_partPlace 8 = .ok (.istore_n 3, 1) := by decide +kernel
theorem dX11_partPlace_9 : decode cX11_partPlace 9 = .ok (.iconst 0, 1) := by decide +kernel
theorem dX11_partPlace_10 : decode cX11_partPlace 10 = .ok (.istore 4, 2) := by decide +kernel
theorem dX11_partPlace_12 : decode cX11_partPlace 12 = .ok (.iconst 0, 1) := by decide +kernel
theorem dX11_partPlace_13 : decode cX11_partPlace 13 = .ok (.istore 5, 2) := by decide +kernel
theorem dX11_partPlace_15 : decode cX11_partPlace 15 = .ok (.iload 5, 2) := by decide +kernel
theorem dX11_partPlace_17 : decode cX11_partPlace 17 = .ok (.aload_n 0, 1) := by decide +kernel
theorem dX11_partPlace_18 : decode cX11_partPlace 18 = .ok (.getfield 23, 3) := by decide +kernel
theorem dX11_partPlace_21 : decode cX11_partPlace 21 = .ok (.iload_n 2, 1) := by decide +kernel
theorem dX11_partPlace_22 : decode cX11_partPlace 22 = .ok (.iaload, 1) := by decide +kernel
theorem dX11_partPlace_23 : decode cX11_partPlace 23 = .ok (.if_icmp .ge 56, 3) := by decide +kernel
theorem dX11_partPlace_26 : decode cX11_partPlace 26 = .ok (.aload_n 0, 1) := by decide +kernel
theorem dX11_partPlace_27 : decode cX11_partPlace 27 = .ok (.getfield 20, 3) := by decide +kernel
theorem dX11_partPlace_30 : decode cX11_partPlace 30 = .ok (.bipush 10, 2) := by decide +kernel
theorem dX11_partPlace_32 : decode cX11_partPlace 32 = .ok (.iload_n 2, 1) := by decide +kernel
theorem dX11_partPlace_33 : decode cX11_partPlace 33 = .ok (.imul, 1) := by decide +kernel
theorem dX11_partPlace_34 : decode cX11_partPlace 34 = .ok (.iload 5, 2) := by decide +kernel
theorem dX11_partPlace_36 : decode cX11_partPlace 36 = .ok (.iadd, 1) := by decide +kernel
theorem dX11_partPlace_37 : decode cX11_partPlace 37 = .ok (.iaload, 1) := by decide +kernel
theorem dX11_partPlace_38 : decode cX11_partPlace 38 = .ok (.istore 6, 2) := by decide +kernel
theorem dX11_partPlace_40 : decode cX11_partPlace 40 = .ok (.iload 4, 2) := by decide +kernel
theorem dX11_partPlace_42 : decode cX11_partPlace 42 = .ok (.aload_n 0, 1) := by decide +kernel
theorem dX11_partPlace_43 : decode cX11_partPlace 43 = .ok (.getfield 44, 3) := by decide +kernel
theorem dX11_partPlace_46 : decode cX11_partPlace 46 = .ok (.iload 6, 2) := by decide +kernel
theorem dX11_partPlace_48 : decode cX11_partPlace 48 = .ok (.baload, 1) := by decide +kernel
theorem dX11_partPlace_49 : decode cX11_partPlace 49 = .ok (.ifCond .eq 7, 3) := by decide +kernel
theorem dX11_partPlace_52 : decode cX11_partPlace 52 = .ok (.iconst 0, 1) := by decide +kernel
theorem dX11_partPlace_53 : decode cX11_partPlace 53 = .ok (.goto 4, 3) := by decide +kernel
theorem dX11_partPlace_56 : decode cX11_partPlace 56 = .ok (.iconst 1, 1) := by decide +kernel
theorem dX11_partPlace_57 : decode cX11_partPlace 57 = .ok (.iadd, 1) := by decide +kernel
theorem dX11_partPlace_58 : decode cX11_partPlace 58 = .ok (.istore 4, 2) := by decide +kernel
theorem dX11_partPlace_60 : decode cX11_partPlace 60 = .ok (.iload 6, 2) := by decide +kernel
theorem dX11_partPlace_62 : decode cX11_partPlace 62 = .ok (.iload_n 1, 1) := by decide +kernel
theorem dX11_partPlace_63 : decode cX11_partPlace 63 = .ok (.if_icmp .ne 8, 3) := by decide +kernel
theorem dX11_partPlace_66 : decode cX11_partPlace 66 = .ok (.iload 4, 2) := by decide +kernel
theorem dX11_partPlace_68 : decode cX11_partPlace 68 = .ok (.goto 4, 3) := by decide +kernel
theorem dX11_partPlace_71 : decode cX11_partPlace 71 = .ok (.iload_n 3, 1) := by decide +kernel
theorem dX11_partPlace_72 : decode cX11_partPlace 72 = .ok (.istore_n 3, 1) := by decide +kernel
theorem dX11_partPlace_73 : decode cX11_partPlace 73 = .ok (.iinc 5 1, 3) := by decide +kernel
theorem dX11_partPlace_76 : decode cX11_partPlace 76 = .ok (.goto (-61), 3) := by decide +kernel
theorem dX11_partPlace_79 : decode cX11_partPlace 79 = .ok (.aload_n 0, 1) := by decide +kernel
theorem dX11_partPlace_80 : decode cX11_partPlace 80 = .ok (.invokevirtual 150, 3) := by decide +kernel
theorem dX11_partPlace_83 : decode cX11_partPlace 83 = .ok (.aload_n 0, 1) := by decide +kernel
theorem dX11_partPlace_84 : decode cX11_partPlace 84 = .ok (.iload_n 3, 1) := by decide +kernel
theorem dX11_partPlace_85 : decode cX11_partPlace 85 = .ok (.invokevirtual 157, 3) := by decide +kernel
theorem dX11_partPlace_88 : decode cX11_partPlace 88 = .ok (.aload_n 0, 1) := by decide +kernel
theorem dX11_partPlace_89 : decode cX11_partPlace 89 = .ok (.iconst 0, 1) := by decide +kernel
theorem dX11_partPlace_90 : decode cX11_partPlace 90 = .ok (.iconst 0, 1) := by decide +kernel
theorem dX11_partPlace_91 : decode cX11_partPlace 91 = .ok (.iconst 0, 1) := by decide +kernel
theorem dX11_partPlace_92 : decode cX11_partPlace 92 = .ok (.iconst 0, 1) := by decide +kernel
theorem dX11_partPlace_93 : decode cX11_partPlace 93 = .ok (.iconst 0, 1) := by decide +kernel
theorem dX11_partPlace_94 : decode cX11_partPlace 94 = .ok (.bipush 111, 2) := by decide +kernel
theorem dX11_partPlace_96 : decode cX11_partPlace 96 = .ok (.bipush 102, 2) := by decide +kernel
theorem dX11_partPlace_98 : decode cX11_partPlace 98 = .ok (.invokestatic 133, 3) := by decide +kernel
theorem dX11_partPlace_101 : decode cX11_partPlace 101 = .ok (.invokevirtual 160, 3) := by decide +kernel
theorem dX11_partPlace_104 : decode cX11_partPlace 104 = .ok (.aload_n 0, 1) := by decide +kernel
theorem dX11_partPlace_105 : decode cX11_partPlace 105 = .ok (.invokevirtual 150, 3) := by decide +kernel
theorem dX11_partPlace_108 : decode cX11_partPlace 108 = .ok (.aload_n 0, 1) := by decide +kernel
theorem dX11_partPlace_109 : decode cX11_partPlace 109 = .ok (.iload 4, 2) := by decide +kernel
theorem dX11_partPlace_111 : decode cX11_partPlace 111 = .ok (.invokevirtual 157, 3) := by decide +kernel
theorem dX11_partPlace_114 : decode cX11_partPlace 114 = .ok (.return_, 1) := by decide +kernel
theorem dX11_partOn_0 : decode cX11_partOn 0 = .ok (.aload_n 0, 1) := by decide +kernel
theorem dX11_partOn_1 : decode cX11_partOn 1 = .ok (.iload_n 1, 1) := by decide +kernel
theorem dX11_partOn_2 : decode cX11_partOn 2 = .ok (.ifCond .eq 18, 3) := by decide +kernel
theorem dX11_partOn_5 : decode cX11_partOn 5 = .ok (.iconst 0, 1) := by decide +kernel
theorem dX11_partOn_6 : decode cX11_partOn 6 = .ok (.iconst 0, 1) := by decide +kernel
theorem dX11_partOn_7 : decode cX11_partOn 7 = .ok (.iconst 0, 1) := by decide +kernel
theorem dX11_partOn_8 : decode cX11_partOn 8 = .ok (.iconst 0, 1) := by decide +kernel
theorem dX11_partOn_9 : decode cX11_partOn 9 = .ok (.iconst 0, 1) := by decide +kernel
theorem dX11_partOn_10 : decode cX11_partOn 10 = .ok (.bipush 111, 2) := by decide +kernel
theorem dX11_partOn_12 : decode cX11_partOn 12 = .ok (.bipush 110, 2) := by decide +kernel
theorem dX11_partOn_14 : decode cX11_partOn 14 = .ok (.invokestatic 133, 3) := by decide +kernel
theorem dX11_partOn_17 : decode cX11_partOn 17 = .ok (.goto 16, 3) := by decide +kernel
theorem dX11_partOn_20 : decode cX11_partOn 20 = .ok (.iconst 0, 1) := by decide +kernel
theorem dX11_partOn_21 : decode cX11_partOn 21 = .ok (.iconst 0, 1) := by decide +kernel
theorem dX11_partOn_22 : decode cX11_partOn 22 = .ok (.iconst 0, 1) := by decide +kernel
theorem dX11_partOn_23 : decode cX11_partOn 23 = .ok (.iconst 0, 1) := by decide +kernel
theorem dX11_partOn_24 : decode cX11_partOn 24 = .ok (.bipush 111, 2) := by decide +kernel
theorem dX11_partOn_26 : decode cX11_partOn 26 = .ok (.bipush 102, 2) := by decide +kernel
theorem dX11_partOn_28 : decode cX11_partOn 28 = .ok (.bipush 102, 2) := by decide +kernel
theorem dX11_partOn_30 : decode cX11_partOn 30 = .ok (.invokestatic 133, 3) := by decide +kernel
theorem dX11_partOn_33 : decode cX11_partOn 33 = .ok (.invokevirtual 160, 3) := by decide +kernel
theorem dX11_partOn_36 : decode cX11_partOn 36 = .ok (.return_, 1) := by decide +kernel
theorem dX11_partWords_0 : decode cX11_partWords 0 = .ok (.aload_n 0, 1) := by decide +kernel
theorem dX11_partWords_1 : decode cX11_partWords 1 = .ok (.iload_n 1, 1) := by decide +kernel
theorem dX11_partWords_2 : decode cX11_partWords 2 = .ok (.invokevirtual 164, 3) := by decide +kernel
theorem dX11_partWords_5 : decode cX11_partWords 5 = .ok (.istore_n 2, 1) := by decide +kernel
theorem dX11_partWords_6 : decode cX11_partWords 6 = .ok (.aload_n 0, 1) := by decide +kernel
theorem dX11_partWords_7 : decode cX11_partWords 7 = .ok (.iload_n 1, 1) := by decide +kernel
theorem dX11_partWords_8 : decode cX11_partWords 8 = .ok (.invokevirtual 168, 3) := by decide +kernel
theorem dX11_partWords_11 : decode cX11_partWords 11 = .ok (.iload_n 2, 1) := by decide +kernel
theorem dX11_partWords_12 : decode cX11_partWords 12 = .ok (.ifCond .ne 12, 3) := by decide +kernel
theorem dX11_partWords_15 : decode cX11_partWords 15 = .ok (.aload_n 0, 1) := by decide +kernel
theorem dX11_partWords_16 : decode cX11_partWords 16 = .ok (.getfield 29, 3) := by decide +kernel
theorem dX11_partWords_19 : decode cX11_partWords 19 = .ok (.iload_n 1, 1) := by decide +kernel
theorem dX11_partWords_20 : decode cX11_partWords 20 = .ok (.iaload, 1) := by decide +kernel
theorem dX11_partWords_21 : decode cX11_partWords 21 = .ok (.ifCond .ne 16, 3) := by decide +kernel
theorem dX11_partWords_24 : decode cX11_partWords 24 = .ok (.aload_n 0, 1) := by decide +kernel
theorem dX11_partWords_25 : decode cX11_partWords 25 = .ok (.aload_n 0, 1) := by decide +kernel
theorem dX11_partWords_26 : decode cX11_partWords 26 = .ok (.getfield 13, 3) := by decide +kernel
theorem dX11_partWords_29 : decode cX11_partWords 29 = .ok (.iload_n 1, 1) := by decide +kernel
theorem dX11_partWords_30 : decode cX11_partWords 30 = .ok (.iaload, 1) := by decide +kernel
theorem dX11_partWords_31 : decode cX11_partWords 31 = .ok (.invokestatic 137, 3) := by decide +kernel
theorem dX11_partWords_34 : decode cX11_partWords 34 = .ok (.invokevirtual 160, 3) := by decide +kernel
theorem dX11_partWords_37 : decode cX11_partWords 37 = .ok (.aload_n 0, 1) := by decide +kernel
theorem dX11_partWords_38 : decode cX11_partWords 38 = .ok (.getfield 13, 3) := by decide +kernel
theorem dX11_partWords_41 : decode cX11_partWords 41 = .ok (.iload_n 1, 1) := by decide +kernel
theorem dX11_partWords_42 : decode cX11_partWords 42 = .ok (.iaload, 1) := by decide +kernel
theorem dX11_partWords_43 : decode cX11_partWords 43 = .ok (.iconst 3, 1) := by decide +kernel
theorem dX11_partWords_44 : decode cX11_partWords 44 = .ok (.if_icmp .ne 13, 3) := by decide +kernel
theorem dX11_partWords_47 : decode cX11_partWords 47 = .ok (.aload_n 0, 1) := by decide +kernel
theorem dX11_partWords_48 : decode cX11_partWords 48 = .ok (.aload_n 0, 1) := by decide +kernel
theorem dX11_partWords_49 : decode cX11_partWords 49 = .ok (.getfield 38, 3) := by decide +kernel
theorem dX11_partWords_52 : decode cX11_partWords 52 = .ok (.iload_n 1, 1) := by decide +kernel
theorem dX11_partWords_53 : decode cX11_partWords 53 = .ok (.baload, 1) := by decide +kernel
theorem dX11_partWords_54 : decode cX11_partWords 54 = .ok (.invokevirtual 171, 3) := by decide +kernel
theorem dX11_partWords_57 : decode cX11_partWords 57 = .ok (.aload_n 0, 1) := by decide +kernel
theorem dX11_partWords_58 : decode cX11_partWords 58 = .ok (.aload_n 0, 1) := by decide +kernel
theorem dX11_partWords_59 : decode cX11_partWords 59 = .ok (.getfield 32, 3) := by decide +kernel
theorem dX11_partWords_62 : decode cX11_partWords 62 = .ok (.bipush 12, 2) := by decide +kernel
theorem dX11_partWords_64 : decode cX11_partWords 64 = .ok (.iload_n 1, 1) := by decide +kernel
theorem dX11_partWords_65 : decode cX11_partWords 65 = .ok (.imul, 1) := by decide +kernel
theorem dX11_partWords_66 : decode cX11_partWords 66 = .ok (.aload_n 0, 1) := by decide +kernel
theorem dX11_partWords_67 : decode cX11_partWords 67 = .ok (.getfield 35, 3) := by decide +kernel
theorem dX11_partWords_70 : decode cX11_partWords 70 = .ok (.iload_n 1, 1) := by decide +kernel
theorem dX11_partWords_71 : decode cX11_partWords 71 = .ok (.iaload, 1) := by decide +kernel
theorem dX11_partWords_72 : decode cX11_partWords 72 = .ok (.invokevirtual 153, 3) := by decide +kernel
theorem dX11_partWords_75 : decode cX11_partWords 75 = .ok (.iload_n 2, 1) := by decide +kernel
theorem dX11_partWords_76 : decode cX11_partWords 76 = .ok (.iconst 2, 1) := by decide +kernel
theorem dX11_partWords_77 : decode cX11_partWords 77 = .ok (.if_icmp .ne 12, 3) := by decide +kernel
theorem dX11_partWords_80 : decode cX11_partWords 80 = .ok (.iload_n 1, 1) := by decide +kernel
theorem dX11_partWords_81 : decode cX11_partWords 81 = .ok (.ifCond .le 8, 3) := by decide +kernel
theorem dX11_partWords_84 : decode cX11_partWords 84 = .ok (.aload_n 0, 1) := by decide +kernel
theorem dX11_partWords_85 : decode cX11_partWords 85 = .ok (.iload_n 1, 1) := by decide +kernel
theorem dX11_partWords_86 : decode cX11_partWords 86 = .ok (.invokevirtual 175, 3) := by decide +kernel
theorem dX11_partWords_89 : decode cX11_partWords 89 = .ok (.return_, 1) := by decide +kernel
theorem dX11_copy_0 : decode cX11_copy 0 = .ok (.iconst 0, 1) := by decide +kernel
theorem dX11_copy_1 : decode cX11_copy 1 = .ok (.istore 5, 2) := by decide +kernel
theorem dX11_copy_3 : decode cX11_copy 3 = .ok (.iload 5, 2) := by decide +kernel
theorem dX11_copy_5 : decode cX11_copy 5 = .ok (.iload 4, 2) := by decide +kernel
theorem dX11_copy_7 : decode cX11_copy 7 = .ok (.if_icmp .ge 21, 3) := by decide +kernel
theorem dX11_copy_10 : decode cX11_copy 10 = .ok (.aload_n 2, 1) := by decide +kernel
theorem dX11_copy_11 : decode cX11_copy 11 = .ok (.iload_n 3, 1) := by decide +kernel
theorem dX11_copy_12 : decode cX11_copy 12 = .ok (.iload 5, 2) := by decide +kernel
theorem dX11_copy_14 : decode cX11_copy 14 = .ok (.iadd, 1) := by decide +kernel
theorem dX11_copy_15 : decode cX11_copy 15 = .ok (.aload_n 0, 1) := by decide +kernel
theorem dX11_copy_16 : decode cX11_copy 16 = .ok (.iload_n 1, 1) := by decide +kernel
theorem dX11_copy_17 : decode cX11_copy 17 = .ok (.iload 5, 2) := by decide +kernel
theorem dX11_copy_19 : decode cX11_copy 19 = .ok (.iadd, 1) := by decide +kernel
theorem dX11_copy_20 : decode cX11_copy 20 = .ok (.iaload, 1) := by decide +kernel
theorem dX11_copy_21 : decode cX11_copy 21 = .ok (.iastore, 1) := by decide +kernel
theorem dX11_copy_22 : decode cX11_copy 22 = .ok (.iinc 5 1, 3) := by decide +kernel
theorem dX11_copy_25 : decode cX11_copy 25 = .ok (.goto (-22), 3) := by decide +kernel
theorem dX11_copy_28 : decode cX11_copy 28 = .ok (.return_, 1) := by decide +kernel
abbrev mX11_part : gM := (yX11_part, cX11_part, 5, (Option.none : Option FieldType), [])
theorem caX11_part : cal mX11_part 3 := ⟨xw 1618 (by decide +kernel) rfl, xw 102 (by decide +kernel) rfl, by decide, by decide +kernel⟩
theorem cvX11_part : calV mX11_part := ⟨xw 1617 (by decide +kernel) rfl, xw 35 (by decide +kernel) rfl⟩
abbrev mX11_partName : gM := (yX11_partName, cX11_partName, 2, (Option.none : Option FieldType), [])
theorem caX11_partName : cal mX11_partName 1 := ⟨xw 1614 (by decide +kernel) rfl, xw 102 (by decide +kernel) rfl, by decide, by decide +kernel⟩
theorem cvX11_partName : calV mX11_partName := ⟨xw 1613 (by decide +kernel) rfl, xw 34 (by decide +kernel) rfl⟩
abbrev mX11_addNumber : gM := (yX11_addNumber, cX11_addNumber, 2, (Option.none : Option FieldType), [])
theorem caX11_addNumber : cal mX11_addNumber 1 := ⟨xw 1650 (by decide +kernel) rfl, xw 102 (by decide +kernel) rfl, by decide, by decide +kernel⟩
theorem cvX11_addNumber : calV mX11_addNumber := ⟨xw 1649 (by decide +kernel) rfl, xw 41 (by decide +kernel) rfl⟩
abbrev mX11_partPlace : gM := (yX11_partPlace, cX11_partPlace, 7, (Option.none : Option FieldType), [])
theorem caX11_partPlace : cal mX11_partPlace 1 := ⟨xw 1646 (by decide +kernel) rfl, xw 102 (by decide +kernel) rfl, by decide, by decide +kernel⟩
theorem cvX11_partPlace : calV mX11_partPlace := ⟨xw 1645 (by decide +kernel) rfl, xw 40 (by decide +kernel) rfl⟩
abbrev mX11_partOn : gM := (yX11_partOn, cX11_partOn, 2, (Option.none : Option FieldType), [])
theorem caX11_partOn : cal mX11_partOn 1 := ⟨xw 1642 (by decide +kernel) rfl, xw 102 (by decide +kernel) rfl, by decide, by decide +kernel⟩
theorem cvX11_partOn : calV mX11_partOn := ⟨xw 1641 (by decide +kernel) rfl, xw 39 (by decide +kernel) rfl⟩
abbrev mX11_partWords : gM := (yX11_partWords, cX11_partWords, 3, (Option.none : Option FieldType), [])
theorem caX11_partWords : cal mX11_partWords 1 := ⟨xw 1606 (by decide +kernel) rfl, xw 102 (by decide +kernel) rfl, by decide, by decide +kernel⟩
theorem cvX11_partWords : calV mX11_partWords := ⟨xw 1605 (by decide +kernel) rfl, xw 32 (by decide +kernel) rfl⟩
abbrev mX11_copy : gM := (yX11_copy, cX11_copy, 6, (Option.none : Option FieldType), [])
theorem caX11_copy : cal mX11_copy 5 := ⟨xw 1594 (by decide +kernel) rfl, xw 102 (by decide +kernel) rfl, by decide, by decide +kernel⟩
theorem csX11_copy : Cond.static yX11_copy ∈ XW := xw 1593 (by decide +kernel) rfl
theorem lkX11_153 : Cond.methodLink RX11 153 yX11_part ∈ XW := xw 1615 (by decide +kernel) rfl
theorem lkX11_157 : Cond.methodLink RX11 157 yX11_addNumber ∈ XW := xw 1647 (by decide +kernel) rfl
theorem lkX11_160 : Cond.methodLink RX11 160 yX11_partWord ∈ XW := xw 1634 (by decide +kernel) rfl
theorem lkX11_164 : Cond.methodLink RX11 164 yX11_levelOf ∈ XW := xw 1607 (by decide +kernel) rfl
theorem lkX11_168 : Cond.methodLink RX11 168 yX11_partName ∈ XW := xw 1611 (by decide +kernel) rfl
theorem lkX11_171 : Cond.methodLink RX11 171 yX11_partOn ∈ XW := xw 1639 (by decide +kernel) rfl
theorem lkX11_175 : Cond.methodLink RX11 175 yX11_partPlace ∈ XW := xw 1643 (by decide +kernel) rfl
/-! BrailleDeskModel.part -/
theorem lX11_part_11 {G : gG} {Q : hQ} {P : mm → Prop} {k n : Nat} (a0 : Nat) (h : hp) (c1 : Nat) (c2 : Int32) (c3 : Int32) (hJ : ∀ q : mm, P q → gV G mX11_part 2 Q 33 [none, none, none, none, none] [] (k) (n) (jn a0 h q)) : ∀ (fu : Nat) (a : (Int32 × mm)), okB (itr (fX11_part_B11 c1 c2 c3) fu a) P → gV G mX11_part 2 Q 11 [some (sr (some a0)), some (sr (some (a0 + mo c1))), some (si c2), some (si c3), some (si a.1)] [] (k) (n) (jn a0 h a.2) :=
  lpg (X := fun (a : (Int32 × mm)) => gV G mX11_part 2 Q 11 [some (sr (some a0)), some (sr (some (a0 + mo c1))), some (si c2), some (si c3), some (si a.1)] [] (k) (n) (jn a0 h a.2)) (fun a P2 hL hE hF => by
    delta fX11_part_B11 at hF
    refine v_iload (pc := 11) (i := 4) dX11_part_11 rfl ?_
    refine v_iload_n (pc := 13) (i := 3) dX11_part_13 rfl rfl ?_
    refine v_icmp_ge (pc := 14) 33 dX11_part_14 rfl (fun hc => ?_) (fun hc => ?_)
    · replace hF := (okB_if hF).1 hc
      exact v_lle [none, none, none, none, none] trivial (hJ a.2 (hE _ (okB_some hF)))
    replace hF := (okB_if hF).2 hc
    refine v_aload_n (pc := 17) (i := 0) dX11_part_17 rfl rfl ?_
    refine v_aload_n (pc := 18) (i := 1) dX11_part_18 rfl rfl ?_
    refine v_iload_n (pc := 19) (i := 2) dX11_part_19 rfl rfl ?_
    refine v_iload (pc := 20) (i := 4) dX11_part_20 rfl ?_
    refine v_iadd (pc := 22) dX11_part_22 ?_
    refine m_iald (pc := 23) (j := c1) dX11_part_23 hF (fun x1 hF => ?_)
    refine chM_V (pc := 24) gU (as := [si x1]) (st := []) (N := mX11_put) (k := k) (n := n) (k1 := 0) (n1 := 0) dX11_part_24 lkX11_146 caX11_put cvX11_put rfl rfl (fun Q1 hq => tX11_put a0 h x1 a.2 Q1 hq) ⟨by decide, by decide⟩ (Nat.le_of_ble_eq_true rfl) rfl hF (fun x2 m3 hF => ?_)
    show gV G mX11_part 2 Q 27 [some (sr (some a0)), some (sr (some (a0 + mo c1))), some (si c2), some (si c3), some (si a.1)] [] (k) (n) (jn a0 h m3)
    refine v_iinc (pc := 27) (i := 4) (a.1 + (1 : Int32)) [some (sr (some a0)), some (sr (some (a0 + mo c1))), some (si c2), some (si c3), some (si (a.1 + (1 : Int32)))] dX11_part_27 rfl rfl rfl rfl ?_
    refine v_goto (pc := 30) 11 dX11_part_30 rfl ?_
    exact v_lle [some (sr (some a0)), some (sr (some (a0 + mo c1))), some (si c2), some (si c3), some (si (a.1 + (1 : Int32)))] ⟨rfl, rfl, rfl, rfl, rfl, trivial⟩ (hL (a.1 + (1 : Int32), m3) (okB_some hF)))
theorem tX11_part {G : gG} (a0 : Nat) (h : hp) (a1 : Nat) (a2 : Int32) (a3 : Int32) (m : mm) (Q : hQ) (hF : okB (fX11_part a1 a2 a3 m) (pM gU Q a0 h)) : gS G mX11_part 2 0 0 [sr (some a0), sr (some (a0 + mo a1)), si a2, si a3] (jn a0 h m) Q := by
  delta fX11_part at hF
  refine gS_at [some (sr (some a0)), some (sr (some (a0 + mo a1))), some (si a2), some (si a3), none] pl_X11 rfl (Nat.le_of_ble_eq_true rfl) rfl ?_
  refine v_iload_n (pc := 0) (i := 3) dX11_part_0 rfl rfl ?_
  refine mg (X := fun q1 => gV G mX11_part 2 Q 8 [some (sr (some a0)), some (sr (some (a0 + mo a1))), some (si a2), some (si a3), none] [] (0) (0) (jn a0 h q1)) hF (fun _ hj2 hF => ?_) (fun q1 hF => ?_)
  · refine v_if_le (pc := 1) 8 dX11_part_1 rfl (fun hc => ?_) (fun hc => ?_)
    · replace hF := (okB_if hF).1 hc
      exact v_lle [some (sr (some a0)), some (sr (some (a0 + mo a1))), some (si a2), some (si a3), none] ⟨rfl, rfl, rfl, rfl, trivial⟩ (hj2 m (okB_some hF))
    replace hF := (okB_if hF).2 hc
    refine v_aload_n (pc := 4) (i := 0) dX11_part_4 rfl rfl ?_
    refine chM_V (pc := 5) gU (as := []) (st := []) (N := mX11_gap) (k := 0) (n := 0) (k1 := 0) (n1 := 0) dX11_part_5 lkX11_150 caX11_gap cvX11_gap rfl rfl (fun Q1 hq => tX11_gap a0 h m Q1 hq) ⟨by decide, by decide⟩ (Nat.le_of_ble_eq_true rfl) rfl hF (fun x3 m4 hF => ?_)
    show gV G mX11_part 2 Q 8 [some (sr (some a0)), some (sr (some (a0 + mo a1))), some (si a2), some (si a3), none] [] (0) (0) (jn a0 h m4)
    exact v_lle [some (sr (some a0)), some (sr (some (a0 + mo a1))), some (si a2), some (si a3), none] ⟨rfl, rfl, rfl, rfl, trivial⟩ (hj2 m4 (okB_some hF))
  refine v_iconst (pc := 8) (v := (0 : Int32)) dX11_part_8 rfl ?_
  refine v_istore (pc := 9) (i := 4) [some (sr (some a0)), some (sr (some (a0 + mo a1))), some (si a2), some (si a3), some (si (0 : Int32))] dX11_part_9 (by decide) rfl rfl ?_
  refine mg (X := fun q5 => gV G mX11_part 2 Q 33 [none, none, none, none, none] [] (0) (0) (jn a0 h q5)) hF (fun _ hj6 hF => v_lle [some (sr (some a0)), some (sr (some (a0 + mo a1))), some (si a2), some (si a3), some (si (0 : Int32))] ⟨rfl, rfl, rfl, rfl, rfl, trivial⟩ (lX11_part_11 a0 h a1 a2 a3 hj6 FU ((0 : Int32), q1) hF)) (fun q5 hF => ?_)
  exact v_ret (pc := 33) dX11_part_33 rfl (okr hF fun q => q)
/-! BrailleDeskModel.partName -/
theorem tX11_partName {G : gG} (a0 : Nat) (h : hp) (a1 : Int32) (m : mm) (Q : hQ) (hF : okB (fX11_partName a1 m) (pM gU Q a0 h)) : gS G mX11_partName 3 0 0 [sr (some a0), si a1] (jn a0 h m) Q := by
  delta fX11_partName at hF
  refine gS_at [some (sr (some a0)), some (si a1)] pl_X11 rfl (Nat.le_of_ble_eq_true rfl) rfl ?_
  refine v_aload_n (pc := 0) (i := 0) dX11_partName_0 rfl rfl ?_
  refine v_aload_n (pc := 1) (i := 0) dX11_partName_1 rfl rfl ?_
  refine m_getA (pc := 2) (j := 6) dX11_partName_2 flX11_26 rfl (by decide) ?_
  refine v_bipush (pc := 5) (v := (12 : Int32)) dX11_partName_5 rfl ?_
  refine v_iload_n (pc := 7) (i := 1) dX11_partName_7 rfl rfl ?_
  refine v_imul (pc := 8) dX11_partName_8 ?_
  refine v_aload_n (pc := 9) (i := 0) dX11_partName_9 rfl rfl ?_
  refine m_getA (pc := 10) (j := 7) dX11_partName_10 flX11_29 rfl (by decide) ?_
  refine v_iload_n (pc := 13) (i := 1) dX11_partName_13 rfl rfl ?_
  refine m_iald (pc := 14) (j := 7) dX11_partName_14 hF (fun x1 hF => ?_)
  refine chM_V (pc := 15) gU (as := [sr (some (a0 + mo 6)), si ((12 : Int32) * a1), si x1]) (st := []) (N := mX11_part) (k := 0) (n := 0) (k1 := 0) (n1 := 0) dX11_partName_15 lkX11_153 caX11_part cvX11_part rfl rfl (fun Q1 hq => tX11_part a0 h 6 ((12 : Int32) * a1) x1 m Q1 hq) ⟨by decide, by decide⟩ (Nat.le_of_ble_eq_true rfl) rfl hF (fun x2 m3 hF => ?_)
  show gV G mX11_partName 3 Q 18 [some (sr (some a0)), some (si a1)] [] (0) (0) (jn a0 h m3)
  exact v_ret (pc := 18) dX11_partName_18 rfl (okr hF fun q => q)
/-! BrailleDeskModel.addNumber -/
theorem tX11_addNumber {G : gG} (a0 : Nat) (h : hp) (a1 : Int32) (m : mm) (Q : hQ) (hF : okB (fX11_addNumber a1 m) (pM gU Q a0 h)) : gS G mX11_addNumber 1 0 0 [sr (some a0), si a1] (jn a0 h m) Q := by
  delta fX11_addNumber at hF
  refine gS_at [some (sr (some a0)), some (si a1)] pl_X11 rfl (Nat.le_of_ble_eq_true rfl) rfl ?_
  refine v_iload_n (pc := 0) (i := 1) dX11_addNumber_0 rfl rfl ?_
  refine v_bipush (pc := 1) (v := (9 : Int32)) dX11_addNumber_1 rfl ?_
  refine mg (X := fun q1 => gV G mX11_addNumber 1 Q 17 [some (sr (some a0)), some (si a1)] [] (0) (0) (jn a0 h q1)) hF (fun _ hj2 hF => ?_) (fun q1 hF => ?_)
  · refine v_icmp_le (pc := 3) 17 dX11_addNumber_3 rfl (fun hc => ?_) (fun hc => ?_)
    · replace hF := (okB_if hF).1 hc
      exact v_lle [some (sr (some a0)), some (si a1)] ⟨rfl, rfl, trivial⟩ (hj2 m (okB_some hF))
    replace hF := (okB_if hF).2 hc
    refine v_aload_n (pc := 6) (i := 0) dX11_addNumber_6 rfl rfl ?_
    refine v_bipush (pc := 7) (v := (48 : Int32)) dX11_addNumber_7 rfl ?_
    refine v_iload_n (pc := 9) (i := 1) dX11_addNumber_9 rfl rfl ?_
    refine v_bipush (pc := 10) (v := (10 : Int32)) dX11_addNumber_10 rfl ?_
    refine s_idiv (pc := 12) dX11_addNumber_12 hF (fun hF => ?_)
    refine v_iadd (pc := 13) dX11_addNumber_13 ?_
    refine chM_V (pc := 14) gU (as := [si ((48 : Int32) + (a1 / (10 : Int32)))]) (st := []) (N := mX11_put) (k := 0) (n := 0) (k1 := 0) (n1 := 0) dX11_addNumber_14 lkX11_146 caX11_put cvX11_put rfl rfl (fun Q1 hq => tX11_put a0 h ((48 : Int32) + (a1 / (10 : Int32))) m Q1 hq) ⟨by decide, by decide⟩ (Nat.le_of_ble_eq_true rfl) rfl hF (fun x3 m4 hF => ?_)
    show gV G mX11_addNumber 1 Q 17 [some (sr (some a0)), some (si a1)] [] (0) (0) (jn a0 h m4)
    exact v_lle [some (sr (some a0)), some (si a1)] ⟨rfl, rfl, trivial⟩ (hj2 m4 (okB_some hF))
  refine v_aload_n (pc := 17) (i := 0) dX11_addNumber_17 rfl rfl ?_
  refine v_bipush (pc := 18) (v := (48 : Int32)) dX11_addNumber_18 rfl ?_
  refine v_iload_n (pc := 20) (i := 1) dX11_addNumber_20 rfl rfl ?_
  refine v_bipush (pc := 21) (v := (10 : Int32)) dX11_addNumber_21 rfl ?_
  refine s_irem (pc := 23) dX11_addNumber_23 hF (fun hF => ?_)
  refine v_iadd (pc := 24) dX11_addNumber_24 ?_
  refine chM_V (pc := 25) gU (as := [si ((48 : Int32) + (a1 - a1 / (10 : Int32) * (10 : Int32)))]) (st := []) (N := mX11_put) (k := 0) (n := 0) (k1 := 0) (n1 := 0) dX11_addNumber_25 lkX11_146 caX11_put cvX11_put rfl rfl (fun Q1 hq => tX11_put a0 h ((48 : Int32) + (a1 - a1 / (10 : Int32) * (10 : Int32))) q1 Q1 hq) ⟨by decide, by decide⟩ (Nat.le_of_ble_eq_true rfl) rfl hF (fun x5 m6 hF => ?_)
  show gV G mX11_addNumber 1 Q 28 [some (sr (some a0)), some (si a1)] [] (0) (0) (jn a0 h m6)
  exact v_ret (pc := 28) dX11_addNumber_28 rfl (okr hF fun q => q)
/-! BrailleDeskModel.partPlace -/
theorem lX11_partPlace_15 {G : gG} {Q : hQ} {P : (Int32 × Int32) → Prop} {k n : Nat} (a0 : Nat) (h : hp) (c1 : Int32) (c2 : Int32) (m : mm) (hJ : ∀ q : (Int32 × Int32), P q → gV G mX11_partPlace 3 Q 79 [some (sr (some a0)), none, none, some (si q.1), some (si q.2), none, none] [] (k) (n) (jn a0 h m)) : ∀ (fu : Nat) (a : (Int32 × Int32 × Int32)), okB (itr (fX11_partPlace_B15 c1 c2 m) fu a) P → gV G mX11_partPlace 3 Q 15 [some (sr (some a0)), some (si c1), some (si c2), some (si a.1), some (si a.2.1), some (si a.2.2), none] [] (k) (n) (jn a0 h m) :=
  lpg (X := fun (a : (Int32 × Int32 × Int32)) => gV G mX11_partPlace 3 Q 15 [some (sr (some a0)), some (si c1), some (si c2), some (si a.1), some (si a.2.1), some (si a.2.2), none] [] (k) (n) (jn a0 h m)) (fun a P2 hL hE hF => by
    delta fX11_partPlace_B15 at hF
    refine v_iload (pc := 15) (i := 5) dX11_partPlace_15 rfl ?_
    refine v_aload_n (pc := 17) (i := 0) dX11_partPlace_17 rfl rfl ?_
    refine m_getA (pc := 18) (j := 5) dX11_partPlace_18 flX11_23 rfl (by decide) ?_
    refine v_iload_n (pc := 21) (i := 2) dX11_partPlace_21 rfl rfl ?_
    refine m_iald (pc := 22) (j := 5) dX11_partPlace_22 hF (fun x1 hF => ?_)
    refine v_icmp_ge (pc := 23) 79 dX11_partPlace_23 rfl (fun hc => ?_) (fun hc => ?_)
    · replace hF := (okB_if hF).1 hc
      exact v_lle [some (sr (some a0)), none, none, some (si a.1), some (si a.2.1), none, none] ⟨rfl, rfl, rfl, trivial⟩ (hJ (a.1, a.2.1) (hE _ (okB_some hF)))
    replace hF := (okB_if hF).2 hc
    refine v_aload_n (pc := 26) (i := 0) dX11_partPlace_26 rfl rfl ?_
    refine m_getA (pc := 27) (j := 4) dX11_partPlace_27 flX11_20 rfl (by decide) ?_
    refine v_bipush (pc := 30) (v := (10 : Int32)) dX11_partPlace_30 rfl ?_
    refine v_iload_n (pc := 32) (i := 2) dX11_partPlace_32 rfl rfl ?_
    refine v_imul (pc := 33) dX11_partPlace_33 ?_
    refine v_iload (pc := 34) (i := 5) dX11_partPlace_34 rfl ?_
    refine v_iadd (pc := 36) dX11_partPlace_36 ?_
    refine m_iald (pc := 37) (j := 4) dX11_partPlace_37 hF (fun x2 hF => ?_)
    refine v_istore (pc := 38) (i := 6) [some (sr (some a0)), some (si c1), some (si c2), some (si a.1), some (si a.2.1), some (si a.2.2), some (si x2)] dX11_partPlace_38 (by decide) rfl rfl ?_
    refine v_iload (pc := 40) (i := 4) dX11_partPlace_40 rfl ?_
    refine v_aload_n (pc := 42) (i := 0) dX11_partPlace_42 rfl rfl ?_
    refine m_getA (pc := 43) (j := 12) dX11_partPlace_43 flX11_44 rfl (by decide) ?_
    refine v_iload (pc := 46) (i := 6) dX11_partPlace_46 rfl ?_
    refine m_zald (pc := 48) (j := 12) dX11_partPlace_48 hF (fun x3 hF => ?_)
    refine mg (X := fun q4 => gV G mX11_partPlace 3 Q 57 [some (sr (some a0)), some (si c1), some (si c2), some (si a.1), none, some (si a.2.2), some (si x2)] [si q4, si a.2.1] (k) (n) (jn a0 h m)) hF (fun _ hj5 hF => ?_) (fun q4 hF => ?_)
    · refine v_if_eq (pc := 49) 56 dX11_partPlace_49 rfl (fun hc => ?_) (fun hc => ?_)
      · replace hF := (okB_if hF).1 hc
        refine v_iconst (pc := 56) (v := (1 : Int32)) dX11_partPlace_56 rfl ?_
        exact v_lle [some (sr (some a0)), some (si c1), some (si c2), some (si a.1), none, some (si a.2.2), some (si x2)] ⟨rfl, rfl, rfl, rfl, rfl, rfl, trivial⟩ (hj5 (1 : Int32) (okB_some hF))
      replace hF := (okB_if hF).2 hc
      refine v_iconst (pc := 52) (v := (0 : Int32)) dX11_partPlace_52 rfl ?_
      refine v_goto (pc := 53) 57 dX11_partPlace_53 rfl ?_
      exact v_lle [some (sr (some a0)), some (si c1), some (si c2), some (si a.1), none, some (si a.2.2), some (si x2)] ⟨rfl, rfl, rfl, rfl, rfl, rfl, trivial⟩ (hj5 (0 : Int32) (okB_some hF))
    refine v_iadd (pc := 57) dX11_partPlace_57 ?_
    refine v_istore (pc := 58) (i := 4) [some (sr (some a0)), some (si c1), some (si c2), some (si a.1), some (si (a.2.1 + q4)), some (si a.2.2), some (si x2)] dX11_partPlace_58 (by decide) rfl rfl ?_
    refine v_iload (pc := 60) (i := 6) dX11_partPlace_60 rfl ?_
    refine v_iload_n (pc := 62) (i := 1) dX11_partPlace_62 rfl rfl ?_
    refine v_icmp_ne (pc := 63) 71 dX11_partPlace_63 rfl (fun hc => ?_) (fun hc => ?_)
    · replace hF := (okB_if hF).2 hc
      refine v_iload_n (pc := 71) (i := 3) dX11_partPlace_71 rfl rfl ?_
      refine v_istore_n (pc := 72) (i := 3) [some (sr (some a0)), some (si c1), some (si c2), some (si a.1), some (si (a.2.1 + q4)), some (si a.2.2), some (si x2)] dX11_partPlace_72 rfl (by decide) rfl rfl ?_
      refine v_iinc (pc := 73) (i := 5) (a.2.2 + (1 : Int32)) [some (sr (some a0)), some (si c1), some (si c2), some (si a.1), some (si (a.2.1 + q4)), some (si (a.2.2 + (1 : Int32))), some (si x2)] dX11_partPlace_73 rfl rfl rfl rfl ?_
      refine v_goto (pc := 76) 15 dX11_partPlace_76 rfl ?_
      exact v_lle [some (sr (some a0)), some (si c1), some (si c2), some (si a.1), some (si (a.2.1 + q4)), some (si (a.2.2 + (1 : Int32))), none] ⟨rfl, rfl, rfl, rfl, rfl, rfl, trivial⟩ (hL (a.1, a.2.1 + q4, a.2.2 + (1 : Int32)) (okB_some hF))
    replace hF := (okB_if hF).1 hc
    refine v_iload (pc := 66) (i := 4) dX11_partPlace_66 rfl ?_
    refine v_goto (pc := 68) 72 dX11_partPlace_68 rfl ?_
    refine v_istore_n (pc := 72) (i := 3) [some (sr (some a0)), some (si c1), some (si c2), some (si (a.2.1 + q4)), some (si (a.2.1 + q4)), some (si a.2.2), some (si x2)] dX11_partPlace_72 rfl (by decide) rfl rfl ?_
    refine v_iinc (pc := 73) (i := 5) (a.2.2 + (1 : Int32)) [some (sr (some a0)), some (si c1), some (si c2), some (si (a.2.1 + q4)), some (si (a.2.1 + q4)), some (si (a.2.2 + (1 : Int32))), some (si x2)] dX11_partPlace_73 rfl rfl rfl rfl ?_
    refine v_goto (pc := 76) 15 dX11_partPlace_76 rfl ?_
    exact v_lle [some (sr (some a0)), some (si c1), some (si c2), some (si (a.2.1 + q4)), some (si (a.2.1 + q4)), some (si (a.2.2 + (1 : Int32))), none] ⟨rfl, rfl, rfl, rfl, rfl, rfl, trivial⟩ (hL (a.2.1 + q4, a.2.1 + q4, a.2.2 + (1 : Int32)) (okB_some hF)))
theorem tX11_partPlace {G : gG} (a0 : Nat) (h : hp) (a1 : Int32) (m : mm) (Q : hQ) (hF : okB (fX11_partPlace a1 m) (pM gU Q a0 h)) : gS G mX11_partPlace 3 0 0 [sr (some a0), si a1] (jn a0 h m) Q := by
  delta fX11_partPlace at hF
  refine gS_at [some (sr (some a0)), some (si a1), none, none, none, none, none] pl_X11 rfl (Nat.le_of_ble_eq_true rfl) rfl ?_
  refine v_aload_n (pc := 0) (i := 0) dX11_partPlace_0 rfl rfl ?_
  refine m_getA (pc := 1) (j := 3) dX11_partPlace_1 flX11_17 rfl (by decide) ?_
  refine v_iload_n (pc := 4) (i := 1) dX11_partPlace_4 rfl rfl ?_
  refine m_iald (pc := 5) (j := 3) dX11_partPlace_5 hF (fun x1 hF => ?_)
  refine v_istore_n (pc := 6) (i := 2) [some (sr (some a0)), some (si a1), some (si x1), none, none, none, none] dX11_partPlace_6 rfl (by decide) rfl rfl ?_
  refine v_iconst (pc := 7) (v := (0 : Int32)) dX11_partPlace_7 rfl ?_
  refine v_istore_n (pc := 8) (i := 3) [some (sr (some a0)), some (si a1), some (si x1), some (si (0 : Int32)), none, none, none] dX11_partPlace_8 rfl (by decide) rfl rfl ?_
  refine v_iconst (pc := 9) (v := (0 : Int32)) dX11_partPlace_9 rfl ?_
  refine v_istore (pc := 10) (i := 4) [some (sr (some a0)), some (si a1), some (si x1), some (si (0 : Int32)), some (si (0 : Int32)), none, none] dX11_partPlace_10 (by decide) rfl rfl ?_
  refine v_iconst (pc := 12) (v := (0 : Int32)) dX11_partPlace_12 rfl ?_
  refine v_istore (pc := 13) (i := 5) [some (sr (some a0)), some (si a1), some (si x1), some (si (0 : Int32)), some (si (0 : Int32)), some (si (0 : Int32)), none] dX11_partPlace_13 (by decide) rfl rfl ?_
  refine mg (X := fun q2 => gV G mX11_partPlace 3 Q 79 [some (sr (some a0)), none, none, some (si q2.1), some (si q2.2), none, none] [] (0) (0) (jn a0 h m)) hF (fun _ hj14 hF => v_lle [some (sr (some a0)), some (si a1), some (si x1), some (si (0 : Int32)), some (si (0 : Int32)), some (si (0 : Int32)), none] ⟨rfl, rfl, rfl, rfl, rfl, rfl, trivial⟩ (lX11_partPlace_15 a0 h a1 x1 m hj14 FU ((0 : Int32), (0 : Int32), (0 : Int32)) hF)) (fun q2 hF => ?_)
  refine v_aload_n (pc := 79) (i := 0) dX11_partPlace_79 rfl rfl ?_
  refine chM_V (pc := 80) gU (as := []) (st := []) (N := mX11_gap) (k := 0) (n := 0) (k1 := 0) (n1 := 0) dX11_partPlace_80 lkX11_150 caX11_gap cvX11_gap rfl rfl (fun Q1 hq => tX11_gap a0 h m Q1 hq) ⟨by decide, by decide⟩ (Nat.le_of_ble_eq_true rfl) rfl hF (fun x3 m4 hF => ?_)
  show gV G mX11_partPlace 3 Q 83 [some (sr (some a0)), none, none, some (si q2.1), some (si q2.2), none, none] [] (0) (0) (jn a0 h m4)
  refine v_aload_n (pc := 83) (i := 0) dX11_partPlace_83 rfl rfl ?_
  refine v_iload_n (pc := 84) (i := 3) dX11_partPlace_84 rfl rfl ?_
  refine chM_V (pc := 85) gU (as := [si q2.1]) (st := []) (N := mX11_addNumber) (k := 0) (n := 0) (k1 := 0) (n1 := 0) dX11_partPlace_85 lkX11_157 caX11_addNumber cvX11_addNumber rfl rfl (fun Q1 hq => tX11_addNumber a0 h q2.1 m4 Q1 hq) ⟨by decide, by decide⟩ (Nat.le_of_ble_eq_true rfl) rfl hF (fun x5 m6 hF => ?_)
  show gV G mX11_partPlace 3 Q 88 [some (sr (some a0)), none, none, some (si q2.1), some (si q2.2), none, none] [] (0) (0) (jn a0 h m6)
  refine v_aload_n (pc := 88) (i := 0) dX11_partPlace_88 rfl rfl ?_
  refine v_iconst (pc := 89) (v := (0 : Int32)) dX11_partPlace_89 rfl ?_
  refine v_iconst (pc := 90) (v := (0 : Int32)) dX11_partPlace_90 rfl ?_
  refine v_iconst (pc := 91) (v := (0 : Int32)) dX11_partPlace_91 rfl ?_
  refine v_iconst (pc := 92) (v := (0 : Int32)) dX11_partPlace_92 rfl ?_
  refine v_iconst (pc := 93) (v := (0 : Int32)) dX11_partPlace_93 rfl ?_
  refine v_bipush (pc := 94) (v := (111 : Int32)) dX11_partPlace_94 rfl ?_
  refine v_bipush (pc := 96) (v := (102 : Int32)) dX11_partPlace_96 rfl ?_
  refine cp_S (pc := 98) gL (as := [si (0 : Int32), si (0 : Int32), si (0 : Int32), si (0 : Int32), si (0 : Int32), si (111 : Int32), si (102 : Int32)]) (st := [sr (some a0)]) (N := mX11_word) (k := 0) (n := 0) (k1 := 0) (n1 := 0) dX11_partPlace_98 lkX11_133 caX11_word csX11_word rfl (fun Q1 hq => tX11_word (0 : Int32) (0 : Int32) (0 : Int32) (0 : Int32) (0 : Int32) (111 : Int32) (102 : Int32) (jn a0 h m6) Q1 hq) ⟨by decide, by decide⟩ (Nat.le_of_ble_eq_true rfl) rfl hF (fun x7 hF => ?_)
  show gV G mX11_partPlace 3 Q 101 [some (sr (some a0)), none, none, some (si q2.1), some (si q2.2), none, none] [sl x7, sr (some a0)] (0) (0) (jn a0 h m6)
  refine chM_V (pc := 101) gU (as := [sl x7]) (st := []) (N := mX11_partWord) (k := 0) (n := 0) (k1 := 0) (n1 := 0) dX11_partPlace_101 lkX11_160 caX11_partWord cvX11_partWord rfl rfl (fun Q1 hq => tX11_partWord a0 h x7 m6 Q1 hq) ⟨by decide, by decide⟩ (Nat.le_of_ble_eq_true rfl) rfl hF (fun x8 m9 hF => ?_)
  show gV G mX11_partPlace 3 Q 104 [some (sr (some a0)), none, none, some (si q2.1), some (si q2.2), none, none] [] (0) (0) (jn a0 h m9)
  refine v_aload_n (pc := 104) (i := 0) dX11_partPlace_104 rfl rfl ?_
  refine chM_V (pc := 105) gU (as := []) (st := []) (N := mX11_gap) (k := 0) (n := 0) (k1 := 0) (n1 := 0) dX11_partPlace_105 lkX11_150 caX11_gap cvX11_gap rfl rfl (fun Q1 hq => tX11_gap a0 h m9 Q1 hq) ⟨by decide, by decide⟩ (Nat.le_of_ble_eq_true rfl) rfl hF (fun x10 m11 hF => ?_)
  show gV G mX11_partPlace 3 Q 108 [some (sr (some a0)), none, none, some (si q2.1), some (si q2.2), none, none] [] (0) (0) (jn a0 h m11)
  refine v_aload_n (pc := 108) (i := 0) dX11_partPlace_108 rfl rfl ?_
  refine v_iload (pc := 109) (i := 4) dX11_partPlace_109 rfl ?_
  refine chM_V (pc := 111) gU (as := [si q2.2]) (st := []) (N := mX11_addNumber) (k := 0) (n := 0) (k1 := 0) (n1 := 0) dX11_partPlace_111 lkX11_157 caX11_addNumber cvX11_addNumber rfl rfl (fun Q1 hq => tX11_addNumber a0 h q2.2 m11 Q1 hq) ⟨by decide, by decide⟩ (Nat.le_of_ble_eq_true rfl) rfl hF (fun x12 m13 hF => ?_)
  show gV G mX11_partPlace 3 Q 114 [some (sr (some a0)), none, none, some (si q2.1), some (si q2.2), none, none] [] (0) (0) (jn a0 h m13)
  exact v_ret (pc := 114) dX11_partPlace_114 rfl (okr hF fun q => q)
/-! BrailleDeskModel.partOn -/
theorem tX11_partOn {G : gG} (a0 : Nat) (h : hp) (a1 : Int32) (m : mm) (Q : hQ) (hF : okB (fX11_partOn a1 m) (pM gU Q a0 h)) : gS G mX11_partOn 3 0 0 [sr (some a0), si a1] (jn a0 h m) Q := by
  delta fX11_partOn at hF
  refine gS_at [some (sr (some a0)), some (si a1)] pl_X11 rfl (Nat.le_of_ble_eq_true rfl) rfl ?_
  refine v_aload_n (pc := 0) (i := 0) dX11_partOn_0 rfl rfl ?_
  refine v_iload_n (pc := 1) (i := 1) dX11_partOn_1 rfl rfl ?_
  refine v_if_eq (pc := 2) 20 dX11_partOn_2 rfl (fun hc => ?_) (fun hc => ?_)
  · replace hF := (okB_if hF).1 hc
    refine v_iconst (pc := 20) (v := (0 : Int32)) dX11_partOn_20 rfl ?_
    refine v_iconst (pc := 21) (v := (0 : Int32)) dX11_partOn_21 rfl ?_
    refine v_iconst (pc := 22) (v := (0 : Int32)) dX11_partOn_22 rfl ?_
    refine v_iconst (pc := 23) (v := (0 : Int32)) dX11_partOn_23 rfl ?_
    refine v_bipush (pc := 24) (v := (111 : Int32)) dX11_partOn_24 rfl ?_
    refine v_bipush (pc := 26) (v := (102 : Int32)) dX11_partOn_26 rfl ?_
    refine v_bipush (pc := 28) (v := (102 : Int32)) dX11_partOn_28 rfl ?_
    refine cp_S (pc := 30) gL (as := [si (0 : Int32), si (0 : Int32), si (0 : Int32), si (0 : Int32), si (111 : Int32), si (102 : Int32), si (102 : Int32)]) (st := [sr (some a0)]) (N := mX11_word) (k := 0) (n := 0) (k1 := 0) (n1 := 0) dX11_partOn_30 lkX11_133 caX11_word csX11_word rfl (fun Q1 hq => tX11_word (0 : Int32) (0 : Int32) (0 : Int32) (0 : Int32) (111 : Int32) (102 : Int32) (102 : Int32) (jn a0 h m) Q1 hq) ⟨by decide, by decide⟩ (Nat.le_of_ble_eq_true rfl) rfl hF (fun x1 hF => ?_)
    show gV G mX11_partOn 3 Q 33 [some (sr (some a0)), some (si a1)] [sl x1, sr (some a0)] (0) (0) (jn a0 h m)
    refine chM_V (pc := 33) gU (as := [sl x1]) (st := []) (N := mX11_partWord) (k := 0) (n := 0) (k1 := 0) (n1 := 0) dX11_partOn_33 lkX11_160 caX11_partWord cvX11_partWord rfl rfl (fun Q1 hq => tX11_partWord a0 h x1 m Q1 hq) ⟨by decide, by decide⟩ (Nat.le_of_ble_eq_true rfl) rfl hF (fun x2 m3 hF => ?_)
    show gV G mX11_partOn 3 Q 36 [some (sr (some a0)), some (si a1)] [] (0) (0) (jn a0 h m3)
    exact v_ret (pc := 36) dX11_partOn_36 rfl (okr hF fun q => q)
  replace hF := (okB_if hF).2 hc
  refine v_iconst (pc := 5) (v := (0 : Int32)) dX11_partOn_5 rfl ?_
  refine v_iconst (pc := 6) (v := (0 : Int32)) dX11_partOn_6 rfl ?_
  refine v_iconst (pc := 7) (v := (0 : Int32)) dX11_partOn_7 rfl ?_
  refine v_iconst (pc := 8) (v := (0 : Int32)) dX11_partOn_8 rfl ?_
  refine v_iconst (pc := 9) (v := (0 : Int32)) dX11_partOn_9 rfl ?_
  refine v_bipush (pc := 10) (v := (111 : Int32)) dX11_partOn_10 rfl ?_
  refine v_bipush (pc := 12) (v := (110 : Int32)) dX11_partOn_12 rfl ?_
  refine cp_S (pc := 14) gL (as := [si (0 : Int32), si (0 : Int32), si (0 : Int32), si (0 : Int32), si (0 : Int32), si (111 : Int32), si (110 : Int32)]) (st := [sr (some a0)]) (N := mX11_word) (k := 0) (n := 0) (k1 := 0) (n1 := 0) dX11_partOn_14 lkX11_133 caX11_word csX11_word rfl (fun Q1 hq => tX11_word (0 : Int32) (0 : Int32) (0 : Int32) (0 : Int32) (0 : Int32) (111 : Int32) (110 : Int32) (jn a0 h m) Q1 hq) ⟨by decide, by decide⟩ (Nat.le_of_ble_eq_true rfl) rfl hF (fun x4 hF => ?_)
  show gV G mX11_partOn 3 Q 17 [some (sr (some a0)), some (si a1)] [sl x4, sr (some a0)] (0) (0) (jn a0 h m)
  refine v_goto (pc := 17) 33 dX11_partOn_17 rfl ?_
  refine chM_V (pc := 33) gU (as := [sl x4]) (st := []) (N := mX11_partWord) (k := 0) (n := 0) (k1 := 0) (n1 := 0) dX11_partOn_33 lkX11_160 caX11_partWord cvX11_partWord rfl rfl (fun Q1 hq => tX11_partWord a0 h x4 m Q1 hq) ⟨by decide, by decide⟩ (Nat.le_of_ble_eq_true rfl) rfl hF (fun x5 m6 hF => ?_)
  show gV G mX11_partOn 3 Q 36 [some (sr (some a0)), some (si a1)] [] (0) (0) (jn a0 h m6)
  exact v_ret (pc := 36) dX11_partOn_36 rfl (okr hF fun q => q)
/-! BrailleDeskModel.partWords -/
theorem tX11_partWords {G : gG} (a0 : Nat) (h : hp) (a1 : Int32) (m : mm) (Q : hQ) (hF : okB (fX11_partWords a1 m) (pM gU Q a0 h)) : gS G mX11_partWords 4 0 0 [sr (some a0), si a1] (jn a0 h m) Q := by
  delta fX11_partWords at hF
  refine gS_at [some (sr (some a0)), some (si a1), none] pl_X11 rfl (Nat.le_of_ble_eq_true rfl) rfl ?_
  refine v_aload_n (pc := 0) (i := 0) dX11_partWords_0 rfl rfl ?_
  refine v_iload_n (pc := 1) (i := 1) dX11_partWords_1 rfl rfl ?_
  refine cpM_V (pc := 2) gI (as := [si a1]) (st := []) (N := mX11_levelOf) (k := 0) (n := 0) (k1 := 0) (n1 := 0) dX11_partWords_2 lkX11_164 caX11_levelOf cvX11_levelOf rfl rfl (fun Q1 hq => tX11_levelOf a0 h a1 m Q1 hq) ⟨by decide, by decide⟩ (Nat.le_of_ble_eq_true rfl) rfl hF (fun x1 hF => ?_)
  show gV G mX11_partWords 4 Q 5 [some (sr (some a0)), some (si a1), none] [si x1] (0) (0) (jn a0 h m)
  refine v_istore_n (pc := 5) (i := 2) [some (sr (some a0)), some (si a1), some (si x1)] dX11_partWords_5 rfl (by decide) rfl rfl ?_
  refine v_aload_n (pc := 6) (i := 0) dX11_partWords_6 rfl rfl ?_
  refine v_iload_n (pc := 7) (i := 1) dX11_partWords_7 rfl rfl ?_
  refine chM_V (pc := 8) gU (as := [si a1]) (st := []) (N := mX11_partName) (k := 0) (n := 0) (k1 := 0) (n1 := 0) dX11_partWords_8 lkX11_168 caX11_partName cvX11_partName rfl rfl (fun Q1 hq => tX11_partName a0 h a1 m Q1 hq) ⟨by decide, by decide⟩ (Nat.le_of_ble_eq_true rfl) rfl hF (fun x2 m3 hF => ?_)
  show gV G mX11_partWords 4 Q 11 [some (sr (some a0)), some (si a1), some (si x1)] [] (0) (0) (jn a0 h m3)
  refine v_iload_n (pc := 11) (i := 2) dX11_partWords_11 rfl rfl ?_
  refine mg (X := fun q4 => gV G mX11_partWords 4 Q 37 [some (sr (some a0)), some (si a1), some (si x1)] [] (0) (0) (jn a0 h q4)) hF (fun _ hj5 hF => ?_) (fun q4 hF => ?_)
  · refine v_if_ne (pc := 12) 24 dX11_partWords_12 rfl (fun hc => ?_) (fun hc => ?_)
    · replace hF := (okB_if hF).2 hc
      refine v_aload_n (pc := 24) (i := 0) dX11_partWords_24 rfl rfl ?_
      refine v_aload_n (pc := 25) (i := 0) dX11_partWords_25 rfl rfl ?_
      refine m_getA (pc := 26) (j := 2) dX11_partWords_26 flX11_13 rfl (by decide) ?_
      refine v_iload_n (pc := 29) (i := 1) dX11_partWords_29 rfl rfl ?_
      refine m_iald (pc := 30) (j := 2) dX11_partWords_30 hF (fun x6 hF => ?_)
      refine cp_S (pc := 31) gL (as := [si x6]) (st := [sr (some a0)]) (N := mX11_kindWord) (k := 0) (n := 0) (k1 := 0) (n1 := 0) dX11_partWords_31 lkX11_137 caX11_kindWord csX11_kindWord rfl (fun Q1 hq => tX11_kindWord x6 (jn a0 h m3) Q1 hq) ⟨by decide, by decide⟩ (Nat.le_of_ble_eq_true rfl) rfl hF (fun x7 hF => ?_)
      show gV G mX11_partWords 4 Q 34 [some (sr (some a0)), some (si a1), some (si x1)] [sl x7, sr (some a0)] (0) (0) (jn a0 h m3)
      refine chM_V (pc := 34) gU (as := [sl x7]) (st := []) (N := mX11_partWord) (k := 0) (n := 0) (k1 := 0) (n1 := 0) dX11_partWords_34 lkX11_160 caX11_partWord cvX11_partWord rfl rfl (fun Q1 hq => tX11_partWord a0 h x7 m3 Q1 hq) ⟨by decide, by decide⟩ (Nat.le_of_ble_eq_true rfl) rfl hF (fun x8 m9 hF => ?_)
      show gV G mX11_partWords 4 Q 37 [some (sr (some a0)), some (si a1), some (si x1)] [] (0) (0) (jn a0 h m9)
      exact v_lle [some (sr (some a0)), some (si a1), some (si x1)] ⟨rfl, rfl, rfl, trivial⟩ (hj5 m9 (okB_some hF))
    replace hF := (okB_if hF).1 hc
    refine v_aload_n (pc := 15) (i := 0) dX11_partWords_15 rfl rfl ?_
    refine m_getA (pc := 16) (j := 7) dX11_partWords_16 flX11_29 rfl (by decide) ?_
    refine v_iload_n (pc := 19) (i := 1) dX11_partWords_19 rfl rfl ?_
    refine m_iald (pc := 20) (j := 7) dX11_partWords_20 hF (fun x10 hF => ?_)
    refine v_if_ne (pc := 21) 37 dX11_partWords_21 rfl (fun hc => ?_) (fun hc => ?_)
    · replace hF := (okB_if hF).2 hc
      exact v_lle [some (sr (some a0)), some (si a1), some (si x1)] ⟨rfl, rfl, rfl, trivial⟩ (hj5 m3 (okB_some hF))
    replace hF := (okB_if hF).1 hc
    refine v_aload_n (pc := 24) (i := 0) dX11_partWords_24 rfl rfl ?_
    refine v_aload_n (pc := 25) (i := 0) dX11_partWords_25 rfl rfl ?_
    refine m_getA (pc := 26) (j := 2) dX11_partWords_26 flX11_13 rfl (by decide) ?_
    refine v_iload_n (pc := 29) (i := 1) dX11_partWords_29 rfl rfl ?_
    refine m_iald (pc := 30) (j := 2) dX11_partWords_30 hF (fun x11 hF => ?_)
    refine cp_S (pc := 31) gL (as := [si x11]) (st := [sr (some a0)]) (N := mX11_kindWord) (k := 0) (n := 0) (k1 := 0) (n1 := 0) dX11_partWords_31 lkX11_137 caX11_kindWord csX11_kindWord rfl (fun Q1 hq => tX11_kindWord x11 (jn a0 h m3) Q1 hq) ⟨by decide, by decide⟩ (Nat.le_of_ble_eq_true rfl) rfl hF (fun x12 hF => ?_)
    show gV G mX11_partWords 4 Q 34 [some (sr (some a0)), some (si a1), some (si x1)] [sl x12, sr (some a0)] (0) (0) (jn a0 h m3)
    refine chM_V (pc := 34) gU (as := [sl x12]) (st := []) (N := mX11_partWord) (k := 0) (n := 0) (k1 := 0) (n1 := 0) dX11_partWords_34 lkX11_160 caX11_partWord cvX11_partWord rfl rfl (fun Q1 hq => tX11_partWord a0 h x12 m3 Q1 hq) ⟨by decide, by decide⟩ (Nat.le_of_ble_eq_true rfl) rfl hF (fun x13 m14 hF => ?_)
    show gV G mX11_partWords 4 Q 37 [some (sr (some a0)), some (si a1), some (si x1)] [] (0) (0) (jn a0 h m14)
    exact v_lle [some (sr (some a0)), some (si a1), some (si x1)] ⟨rfl, rfl, rfl, trivial⟩ (hj5 m14 (okB_some hF))
  refine v_aload_n (pc := 37) (i := 0) dX11_partWords_37 rfl rfl ?_
  refine m_getA (pc := 38) (j := 2) dX11_partWords_38 flX11_13 rfl (by decide) ?_
  refine v_iload_n (pc := 41) (i := 1) dX11_partWords_41 rfl rfl ?_
  refine m_iald (pc := 42) (j := 2) dX11_partWords_42 hF (fun x15 hF => ?_)
  refine v_iconst (pc := 43) (v := (3 : Int32)) dX11_partWords_43 rfl ?_
  refine mg (X := fun q16 => gV G mX11_partWords 4 Q 57 [some (sr (some a0)), some (si a1), some (si x1)] [] (0) (0) (jn a0 h q16)) hF (fun _ hj17 hF => ?_) (fun q16 hF => ?_)
  · refine v_icmp_ne (pc := 44) 57 dX11_partWords_44 rfl (fun hc => ?_) (fun hc => ?_)
    · replace hF := (okB_if hF).2 hc
      exact v_lle [some (sr (some a0)), some (si a1), some (si x1)] ⟨rfl, rfl, rfl, trivial⟩ (hj17 q4 (okB_some hF))
    replace hF := (okB_if hF).1 hc
    refine v_aload_n (pc := 47) (i := 0) dX11_partWords_47 rfl rfl ?_
    refine v_aload_n (pc := 48) (i := 0) dX11_partWords_48 rfl rfl ?_
    refine m_getA (pc := 49) (j := 10) dX11_partWords_49 flX11_38 rfl (by decide) ?_
    refine v_iload_n (pc := 52) (i := 1) dX11_partWords_52 rfl rfl ?_
    refine m_zald (pc := 53) (j := 10) dX11_partWords_53 hF (fun x18 hF => ?_)
    refine chM_V (pc := 54) gU (as := [si x18]) (st := []) (N := mX11_partOn) (k := 0) (n := 0) (k1 := 0) (n1 := 0) dX11_partWords_54 lkX11_171 caX11_partOn cvX11_partOn rfl rfl (fun Q1 hq => tX11_partOn a0 h x18 q4 Q1 hq) ⟨by decide, by decide⟩ (Nat.le_of_ble_eq_true rfl) rfl hF (fun x19 m20 hF => ?_)
    show gV G mX11_partWords 4 Q 57 [some (sr (some a0)), some (si a1), some (si x1)] [] (0) (0) (jn a0 h m20)
    exact v_lle [some (sr (some a0)), some (si a1), some (si x1)] ⟨rfl, rfl, rfl, trivial⟩ (hj17 m20 (okB_some hF))
  refine v_aload_n (pc := 57) (i := 0) dX11_partWords_57 rfl rfl ?_
  refine v_aload_n (pc := 58) (i := 0) dX11_partWords_58 rfl rfl ?_
  refine m_getA (pc := 59) (j := 8) dX11_partWords_59 flX11_32 rfl (by decide) ?_
  refine v_bipush (pc := 62) (v := (12 : Int32)) dX11_partWords_62 rfl ?_
  refine v_iload_n (pc := 64) (i := 1) dX11_partWords_64 rfl rfl ?_
  refine v_imul (pc := 65) dX11_partWords_65 ?_
  refine v_aload_n (pc := 66) (i := 0) dX11_partWords_66 rfl rfl ?_
  refine m_getA (pc := 67) (j := 9) dX11_partWords_67 flX11_35 rfl (by decide) ?_
  refine v_iload_n (pc := 70) (i := 1) dX11_partWords_70 rfl rfl ?_
  refine m_iald (pc := 71) (j := 9) dX11_partWords_71 hF (fun x21 hF => ?_)
  refine chM_V (pc := 72) gU (as := [sr (some (a0 + mo 8)), si ((12 : Int32) * a1), si x21]) (st := []) (N := mX11_part) (k := 0) (n := 0) (k1 := 0) (n1 := 0) dX11_partWords_72 lkX11_153 caX11_part cvX11_part rfl rfl (fun Q1 hq => tX11_part a0 h 8 ((12 : Int32) * a1) x21 q16 Q1 hq) ⟨by decide, by decide⟩ (Nat.le_of_ble_eq_true rfl) rfl hF (fun x22 m23 hF => ?_)
  show gV G mX11_partWords 4 Q 75 [some (sr (some a0)), some (si a1), some (si x1)] [] (0) (0) (jn a0 h m23)
  refine v_iload_n (pc := 75) (i := 2) dX11_partWords_75 rfl rfl ?_
  refine v_iconst (pc := 76) (v := (2 : Int32)) dX11_partWords_76 rfl ?_
  refine v_icmp_ne (pc := 77) 89 dX11_partWords_77 rfl (fun hc => ?_) (fun hc => ?_)
  · replace hF := (okB_if hF).2 hc
    exact v_ret (pc := 89) dX11_partWords_89 rfl (okr hF fun q => q)
  replace hF := (okB_if hF).1 hc
  refine v_iload_n (pc := 80) (i := 1) dX11_partWords_80 rfl rfl ?_
  refine v_if_le (pc := 81) 89 dX11_partWords_81 rfl (fun hc => ?_) (fun hc => ?_)
  · replace hF := (okB_if hF).1 hc
    exact v_ret (pc := 89) dX11_partWords_89 rfl (okr hF fun q => q)
  replace hF := (okB_if hF).2 hc
  refine v_aload_n (pc := 84) (i := 0) dX11_partWords_84 rfl rfl ?_
  refine v_iload_n (pc := 85) (i := 1) dX11_partWords_85 rfl rfl ?_
  refine chM_V (pc := 86) gU (as := [si a1]) (st := []) (N := mX11_partPlace) (k := 0) (n := 0) (k1 := 0) (n1 := 0) dX11_partWords_86 lkX11_175 caX11_partPlace cvX11_partPlace rfl rfl (fun Q1 hq => tX11_partPlace a0 h a1 m23 Q1 hq) ⟨by decide, by decide⟩ (Nat.le_of_ble_eq_true rfl) rfl hF (fun x24 m25 hF => ?_)
  show gV G mX11_partWords 4 Q 89 [some (sr (some a0)), some (si a1), some (si x1)] [] (0) (0) (jn a0 h m25)
  exact v_ret (pc := 89) dX11_partWords_89 rfl (okr hF fun q => q)
/-! BrailleDeskModel.copy -/
theorem lX11_copy_3 {G : gG} {Q : hQ} {P : mm → Prop} {k n : Nat} (a0 : Nat) (h : hp) (c0 : Nat) (c1 : Int32) (c2 : Nat) (c3 : Int32) (c4 : Int32) (hJ : ∀ q : mm, P q → gV G mX11_copy 0 Q 28 [none, none, none, none, none, none] [] (k) (n) (jn a0 h q)) : ∀ (fu : Nat) (a : (Int32 × mm)), okB (itr (fX11_copy_B3 c0 c1 c2 c3 c4) fu a) P → gV G mX11_copy 0 Q 3 [some (sr (some (a0 + mo c0))), some (si c1), some (sr (some (a0 + mo c2))), some (si c3), some (si c4), some (si a.1)] [] (k) (n) (jn a0 h a.2) :=
  lpg (X := fun (a : (Int32 × mm)) => gV G mX11_copy 0 Q 3 [some (sr (some (a0 + mo c0))), some (si c1), some (sr (some (a0 + mo c2))), some (si c3), some (si c4), some (si a.1)] [] (k) (n) (jn a0 h a.2)) (fun a P2 hL hE hF => by
    delta fX11_copy_B3 at hF
    refine v_iload (pc := 3) (i := 5) dX11_copy_3 rfl ?_
    refine v_iload (pc := 5) (i := 4) dX11_copy_5 rfl ?_
    refine v_icmp_ge (pc := 7) 28 dX11_copy_7 rfl (fun hc => ?_) (fun hc => ?_)
    · replace hF := (okB_if hF).1 hc
      exact v_lle [none, none, none, none, none, none] trivial (hJ a.2 (hE _ (okB_some hF)))
    replace hF := (okB_if hF).2 hc
    refine v_aload_n (pc := 10) (i := 2) dX11_copy_10 rfl rfl ?_
    refine v_iload_n (pc := 11) (i := 3) dX11_copy_11 rfl rfl ?_
    refine v_iload (pc := 12) (i := 5) dX11_copy_12 rfl ?_
    refine v_iadd (pc := 14) dX11_copy_14 ?_
    refine v_aload_n (pc := 15) (i := 0) dX11_copy_15 rfl rfl ?_
    refine v_iload_n (pc := 16) (i := 1) dX11_copy_16 rfl rfl ?_
    refine v_iload (pc := 17) (i := 5) dX11_copy_17 rfl ?_
    refine v_iadd (pc := 19) dX11_copy_19 ?_
    refine m_iald (pc := 20) (j := c0) dX11_copy_20 hF (fun x1 hF => ?_)
    refine m_iast (pc := 21) (j := c2) dX11_copy_21 hF (fun m2 hF => ?_)
    refine v_iinc (pc := 22) (i := 5) (a.1 + (1 : Int32)) [some (sr (some (a0 + mo c0))), some (si c1), some (sr (some (a0 + mo c2))), some (si c3), some (si c4), some (si (a.1 + (1 : Int32)))] dX11_copy_22 rfl rfl rfl rfl ?_
    refine v_goto (pc := 25) 3 dX11_copy_25 rfl ?_
    exact v_lle [some (sr (some (a0 + mo c0))), some (si c1), some (sr (some (a0 + mo c2))), some (si c3), some (si c4), some (si (a.1 + (1 : Int32)))] ⟨rfl, rfl, rfl, rfl, rfl, rfl, trivial⟩ (hL (a.1 + (1 : Int32), m2) (okB_some hF)))
theorem tX11_copy {G : gG} (a0 : Nat) (h : hp) (a1 : Nat) (a2 : Int32) (a3 : Nat) (a4 : Int32) (a5 : Int32) (m : mm) (Q : hQ) (hF : okB (fX11_copy a1 a2 a3 a4 a5 m) (pM gU Q a0 h)) : gS G mX11_copy 0 0 0 [sr (some (a0 + mo a1)), si a2, sr (some (a0 + mo a3)), si a4, si a5] (jn a0 h m) Q := by
  delta fX11_copy at hF
  refine gS_at [some (sr (some (a0 + mo a1))), some (si a2), some (sr (some (a0 + mo a3))), some (si a4), some (si a5), none] pl_X11 rfl (Nat.le_of_ble_eq_true rfl) rfl ?_
  refine v_iconst (pc := 0) (v := (0 : Int32)) dX11_copy_0 rfl ?_
  refine v_istore (pc := 1) (i := 5) [some (sr (some (a0 + mo a1))), some (si a2), some (sr (some (a0 + mo a3))), some (si a4), some (si a5), some (si (0 : Int32))] dX11_copy_1 (by decide) rfl rfl ?_
  refine mg (X := fun q1 => gV G mX11_copy 0 Q 28 [none, none, none, none, none, none] [] (0) (0) (jn a0 h q1)) hF (fun _ hj2 hF => v_lle [some (sr (some (a0 + mo a1))), some (si a2), some (sr (some (a0 + mo a3))), some (si a4), some (si a5), some (si (0 : Int32))] ⟨rfl, rfl, rfl, rfl, rfl, rfl, trivial⟩ (lX11_copy_3 a0 h a1 a2 a3 a4 a5 hj2 FU ((0 : Int32), m) hF)) (fun q1 hF => ?_)
  exact v_ret (pc := 28) dX11_copy_28 rfl (okr hF fun q => q)
