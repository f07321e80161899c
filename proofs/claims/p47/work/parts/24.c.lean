/-! ===== methods: their functions and rows ===== -/
theorem dX2_region_0 : decode cX2_region 0 = .ok (.aload_n 0, 1) := by decide +kernel
theorem dX2_region_1 : decode cX2_region 1 = .ok (.getfield 18, 3) := by decide +kernel
theorem dX2_region_4 : decode cX2_region 4 = .ok (.astore_n 1, 1) := by decide +kernel
theorem dX2_region_5 : decode cX2_region 5 = .ok (.aload_n 1, 1) := by decide +kernel
theorem dX2_region_6 : decode cX2_region 6 = .ok (.ifnull 22, 3) := by decide +kernel
theorem dX2_region_9 : decode cX2_region 9 = .ok (.aload_n 1, 1) := by decide +kernel
theorem dX2_region_10 : decode cX2_region 10 = .ok (.getfield 15, 3) := by decide +kernel
theorem dX2_region_13 : decode cX2_region 13 = .ok (.bipush 7, 2) := by decide +kernel
theorem dX2_region_15 : decode cX2_region 15 = .ok (.if_icmp .ne 5, 3) := by decide +kernel
theorem dX2_region_18 : decode cX2_region 18 = .ok (.aload_n 1, 1) := by decide +kernel
theorem dX2_region_19 : decode cX2_region 19 = .ok (.areturn, 1) := by decide +kernel
theorem dX2_region_20 : decode cX2_region 20 = .ok (.aload_n 1, 1) := by decide +kernel
theorem dX2_region_21 : decode cX2_region 21 = .ok (.getfield 18, 3) := by decide +kernel
theorem dX2_region_24 : decode cX2_region 24 = .ok (.astore_n 1, 1) := by decide +kernel
theorem dX2_region_25 : decode cX2_region 25 = .ok (.goto (-20), 3) := by decide +kernel
theorem dX2_region_28 : decode cX2_region 28 = .ok (.aconst_null, 1) := by decide +kernel
theorem dX2_region_29 : decode cX2_region 29 = .ok (.areturn, 1) := by decide +kernel
theorem dX2_canHaveFocus_0 : decode cX2_canHaveFocus 0 = .ok (.aload_n 0, 1) := by decide +kernel
theorem dX2_canHaveFocus_1 : decode cX2_canHaveFocus 1 = .ok (.getfield 15, 3) := by decide +kernel
theorem dX2_canHaveFocus_4 : decode cX2_canHaveFocus 4 = .ok (.iconst 2, 1) := by decide +kernel
theorem dX2_canHaveFocus_5 : decode cX2_canHaveFocus 5 = .ok (.if_icmp .eq 19, 3) := by decide +kernel
theorem dX2_canHaveFocus_8 : decode cX2_canHaveFocus 8 = .ok (.aload_n 0, 1) := by decide +kernel
theorem dX2_canHaveFocus_9 : decode cX2_canHaveFocus 9 = .ok (.getfield 15, 3) := by decide +kernel
theorem dX2_canHaveFocus_12 : decode cX2_canHaveFocus 12 = .ok (.iconst 3, 1) := by decide +kernel
theorem dX2_canHaveFocus_13 : decode cX2_canHaveFocus 13 = .ok (.if_icmp .eq 11, 3) := by decide +kernel
theorem dX2_canHaveFocus_16 : decode cX2_canHaveFocus 16 = .ok (.aload_n 0, 1) := by decide +kernel
theorem dX2_canHaveFocus_17 : decode cX2_canHaveFocus 17 = .ok (.getfield 15, 3) := by decide +kernel
theorem dX2_canHaveFocus_20 : decode cX2_canHaveFocus 20 = .ok (.iconst 4, 1) := by decide +kernel
theorem dX2_canHaveFocus_21 : decode cX2_canHaveFocus 21 = .ok (.if_icmp .ne 7, 3) := by decide +kernel
theorem dX2_canHaveFocus_24 : decode cX2_canHaveFocus 24 = .ok (.iconst 1, 1) := by decide +kernel
theorem dX2_canHaveFocus_25 : decode cX2_canHaveFocus 25 = .ok (.goto 4, 3) := by decide +kernel
theorem dX2_canHaveFocus_28 : decode cX2_canHaveFocus 28 = .ok (.iconst 0, 1) := by decide +kernel
theorem dX2_canHaveFocus_29 : decode cX2_canHaveFocus 29 = .ok (.ireturn, 1) := by decide +kernel
theorem dX2_refuge_0 : decode cX2_refuge 0 = .ok (.aload_n 0, 1) := by decide +kernel
theorem dX2_refuge_1 : decode cX2_refuge 1 = .ok (.getfield 18, 3) := by decide +kernel
theorem dX2_refuge_4 : decode cX2_refuge 4 = .ok (.ifnonnull 5, 3) := by decide +kernel
theorem dX2_refuge_7 : decode cX2_refuge 7 = .ok (.aload_n 0, 1) := by decide +kernel
theorem dX2_refuge_8 : decode cX2_refuge 8 = .ok (.areturn, 1) := by decide +kernel
theorem dX2_refuge_9 : decode cX2_refuge 9 = .ok (.aload_n 0, 1) := by decide +kernel
theorem dX2_refuge_10 : decode cX2_refuge 10 = .ok (.getfield 18, 3) := by decide +kernel
theorem dX2_refuge_13 : decode cX2_refuge 13 = .ok (.aload_n 0, 1) := by decide +kernel
theorem dX2_refuge_14 : decode cX2_refuge 14 = .ok (.invokevirtual 58, 3) := by decide +kernel
theorem dX2_refuge_17 : decode cX2_refuge 17 = .ok (.istore_n 1, 1) := by decide +kernel
theorem dX2_refuge_18 : decode cX2_refuge 18 = .ok (.iload_n 1, 1) := by decide +kernel
theorem dX2_refuge_19 : decode cX2_refuge 19 = .ok (.iconst 1, 1) := by decide +kernel
theorem dX2_refuge_20 : decode cX2_refuge 20 = .ok (.iadd, 1) := by decide +kernel
theorem dX2_refuge_21 : decode cX2_refuge 21 = .ok (.istore_n 2, 1) := by decide +kernel
theorem dX2_refuge_22 : decode cX2_refuge 22 = .ok (.iload_n 2, 1) := by decide +kernel
theorem dX2_refuge_23 : decode cX2_refuge 23 = .ok (.aload_n 0, 1) := by decide +kernel
theorem dX2_refuge_24 : decode cX2_refuge 24 = .ok (.getfield 18, 3) := by decide +kernel
theorem dX2_refuge_27 : decode cX2_refuge 27 = .ok (.invokevirtual 62, 3) := by decide +kernel
theorem dX2_refuge_30 : decode cX2_refuge 30 = .ok (.if_icmp .ge 24, 3) := by decide +kernel
theorem dX2_refuge_33 : decode cX2_refuge 33 = .ok (.aload_n 0, 1) := by decide +kernel
theorem dX2_refuge_34 : decode cX2_refuge 34 = .ok (.getfield 18, 3) := by decide +kernel
theorem dX2_refuge_37 : decode cX2_refuge 37 = .ok (.iload_n 2, 1) := by decide +kernel
theorem dX2_refuge_38 : decode cX2_refuge 38 = .ok (.invokevirtual 66, 3) := by decide +kernel
theorem dX2_refuge_41 : decode cX2_refuge 41 = .ok (.astore_n 3, 1) := by decide +kernel
theorem dX2_refuge_42 : decode cX2_refuge 42 = .ok (.aload_n 3, 1) := by decide +kernel
theorem dX2_refuge_43 : decode cX2_refuge 43 = .ok (.ifnull 5, 3) := by decide +kernel
theorem dX2_refuge_46 : decode cX2_refuge 46 = .ok (.aload_n 3, 1) := by decide +kernel
theorem dX2_refuge_47 : decode cX2_refuge 47 = .ok (.areturn, 1) := by decide +kernel
theorem dX2_refuge_48 : decode cX2_refuge 48 = .ok (.iinc 2 1, 3) := by decide +kernel
theorem dX2_refuge_51 : decode cX2_refuge 51 = .ok (.goto (-29), 3) := by decide +kernel
theorem dX2_refuge_54 : decode cX2_refuge 54 = .ok (.iload_n 1, 1) := by decide +kernel
theorem dX2_refuge_55 : decode cX2_refuge 55 = .ok (.iconst 1, 1) := by decide +kernel
theorem dX2_refuge_56 : decode cX2_refuge 56 = .ok (.isub, 1) := by decide +kernel
theorem dX2_refuge_57 : decode cX2_refuge 57 = .ok (.istore_n 2, 1) := by decide +kernel
theorem dX2_refuge_58 : decode cX2_refuge 58 = .ok (.iload_n 2, 1) := by decide +kernel
theorem dX2_refuge_59 : decode cX2_refuge 59 = .ok (.ifCond .lt 24, 3) := by decide +kernel
theorem dX2_refuge_62 : decode cX2_refuge 62 = .ok (.aload_n 0, 1) := by decide +kernel
theorem dX2_refuge_63 : decode cX2_refuge 63 = .ok (.getfield 18, 3) := by decide +kernel
theorem dX2_refuge_66 : decode cX2_refuge 66 = .ok (.iload_n 2, 1) := by decide +kernel
theorem dX2_refuge_67 : decode cX2_refuge 67 = .ok (.invokevirtual 66, 3) := by decide +kernel
theorem dX2_refuge_70 : decode cX2_refuge 70 = .ok (.astore_n 3, 1) := by decide +kernel
theorem dX2_refuge_71 : decode cX2_refuge 71 = .ok (.aload_n 3, 1) := by decide +kernel
theorem dX2_refuge_72 : decode cX2_refuge 72 = .ok (.ifnull 5, 3) := by decide +kernel
theorem dX2_refuge_75 : decode cX2_refuge 75 = .ok (.aload_n 3, 1) := by decide +kernel
theorem dX2_refuge_76 : decode cX2_refuge 76 = .ok (.areturn, 1) := by decide +kernel
theorem dX2_refuge_77 : decode cX2_refuge 77 = .ok (.iinc 2 (-1), 3) := by decide +kernel
theorem dX2_refuge_80 : decode cX2_refuge 80 = .ok (.goto (-22), 3) := by decide +kernel
theorem dX2_refuge_83 : decode cX2_refuge 83 = .ok (.aload_n 0, 1) := by decide +kernel
theorem dX2_refuge_84 : decode cX2_refuge 84 = .ok (.getfield 18, 3) := by decide +kernel
theorem dX2_refuge_87 : decode cX2_refuge 87 = .ok (.areturn, 1) := by decide +kernel
theorem dX2_shownUpTo_0 : decode cX2_shownUpTo 0 = .ok (.iconst 0, 1) := by decide +kernel
theorem dX2_shownUpTo_1 : decode cX2_shownUpTo 1 = .ok (.istore_n 2, 1) := by decide +kernel
theorem dX2_shownUpTo_2 : decode cX2_shownUpTo 2 = .ok (.iconst 0, 1) := by decide +kernel
theorem dX2_shownUpTo_3 : decode cX2_shownUpTo 3 = .ok (.istore_n 3, 1) := by decide +kernel
theorem dX2_shownUpTo_4 : decode cX2_shownUpTo 4 = .ok (.iload_n 3, 1) := by decide +kernel
theorem dX2_shownUpTo_5 : decode cX2_shownUpTo 5 = .ok (.iload_n 1, 1) := by decide +kernel
theorem dX2_shownUpTo_6 : decode cX2_shownUpTo 6 = .ok (.if_icmp .gt 28, 3) := by decide +kernel
theorem dX2_shownUpTo_9 : decode cX2_shownUpTo 9 = .ok (.iload_n 3, 1) := by decide +kernel
theorem dX2_shownUpTo_10 : decode cX2_shownUpTo 10 = .ok (.aload_n 0, 1) := by decide +kernel
theorem dX2_shownUpTo_11 : decode cX2_shownUpTo 11 = .ok (.getfield 47, 3) := by decide +kernel
theorem dX2_shownUpTo_14 : decode cX2_shownUpTo 14 = .ok (.if_icmp .ge 20, 3) := by decide +kernel
theorem dX2_shownUpTo_17 : decode cX2_shownUpTo 17 = .ok (.aload_n 0, 1) := by decide +kernel
theorem dX2_shownUpTo_18 : decode cX2_shownUpTo 18 = .ok (.iload_n 3, 1) := by decide +kernel
theorem dX2_shownUpTo_19 : decode cX2_shownUpTo 19 = .ok (.invokevirtual 66, 3) := by decide +kernel
theorem dX2_shownUpTo_22 : decode cX2_shownUpTo 22 = .ok (.ifnull 6, 3) := by decide +kernel
theorem dX2_shownUpTo_25 : decode cX2_shownUpTo 25 = .ok (.iinc 2 1, 3) := by decide +kernel
theorem dX2_shownUpTo_28 : decode cX2_shownUpTo 28 = .ok (.iinc 3 1, 3) := by decide +kernel
theorem dX2_shownUpTo_31 : decode cX2_shownUpTo 31 = .ok (.goto (-27), 3) := by decide +kernel
theorem dX2_shownUpTo_34 : decode cX2_shownUpTo 34 = .ok (.iload_n 2, 1) := by decide +kernel
theorem dX2_shownUpTo_35 : decode cX2_shownUpTo 35 = .ok (.ireturn, 1) := by decide +kernel
theorem dX2_putWords_0 : decode cX2_putWords 0 = .ok (.aload_n 0, 1) := by decide +kernel
theorem dX2_putWords_1 : decode cX2_putWords 1 = .ok (.invokevirtual 69, 3) := by decide +kernel
theorem dX2_putWords_4 : decode cX2_putWords 4 = .ok (.istore_n 2, 1) := by decide +kernel
theorem dX2_putWords_5 : decode cX2_putWords 5 = .ok (.aload_n 1, 1) := by decide +kernel
theorem dX2_putWords_6 : decode cX2_putWords 6 = .ok (.aload_n 0, 1) := by decide +kernel
theorem dX2_putWords_7 : decode cX2_putWords 7 = .ok (.getfield 31, 3) := by decide +kernel
theorem dX2_putWords_10 : decode cX2_putWords 10 = .ok (.invokevirtual 72, 3) := by decide +kernel
theorem dX2_putWords_13 : decode cX2_putWords 13 = .ok (.iload_n 2, 1) := by decide +kernel
theorem dX2_putWords_14 : decode cX2_putWords 14 = .ok (.ifCond .ne 13, 3) := by decide +kernel
theorem dX2_putWords_17 : decode cX2_putWords 17 = .ok (.aload_n 0, 1) := by decide +kernel
theorem dX2_putWords_18 : decode cX2_putWords 18 = .ok (.getfield 31, 3) := by decide +kernel
theorem dX2_putWords_21 : decode cX2_putWords 21 = .ok (.invokevirtual 76, 3) := by decide +kernel
theorem dX2_putWords_24 : decode cX2_putWords 24 = .ok (.ifCond .ne 14, 3) := by decide +kernel
theorem dX2_putWords_27 : decode cX2_putWords 27 = .ok (.aload_n 1, 1) := by decide +kernel
theorem dX2_putWords_28 : decode cX2_putWords 28 = .ok (.aload_n 0, 1) := by decide +kernel
theorem dX2_putWords_29 : decode cX2_putWords 29 = .ok (.getfield 15, 3) := by decide +kernel
theorem dX2_putWords_32 : decode cX2_putWords 32 = .ok (.invokestatic 77, 3) := by decide +kernel
theorem dX2_putWords_35 : decode cX2_putWords 35 = .ok (.invokevirtual 81, 3) := by decide +kernel
theorem dX2_putWords_38 : decode cX2_putWords 38 = .ok (.aload_n 0, 1) := by decide +kernel
theorem dX2_putWords_39 : decode cX2_putWords 39 = .ok (.getfield 15, 3) := by decide +kernel
theorem dX2_putWords_42 : decode cX2_putWords 42 = .ok (.iconst 3, 1) := by decide +kernel
theorem dX2_putWords_43 : decode cX2_putWords 43 = .ok (.if_icmp .ne 21, 3) := by decide +kernel
theorem dX2_putWords_46 : decode cX2_putWords 46 = .ok (.aload_n 1, 1) := by decide +kernel
theorem dX2_putWords_47 : decode cX2_putWords 47 = .ok (.aload_n 0, 1) := by decide +kernel
theorem dX2_putWords_48 : decode cX2_putWords 48 = .ok (.getfield 84, 3) := by decide +kernel
theorem dX2_putWords_51 : decode cX2_putWords 51 = .ok (.ifCond .eq 8, 3) := by decide +kernel
theorem dX2_putWords_54 : decode cX2_putWords 54 = .ok (.ldc 87, 2) := by decide +kernel
theorem dX2_putWords_56 : decode cX2_putWords 56 = .ok (.goto 5, 3) := by decide +kernel
theorem dX2_putWords_59 : decode cX2_putWords 59 = .ok (.ldc 89, 2) := by decide +kernel
theorem dX2_putWords_61 : decode cX2_putWords 61 = .ok (.invokevirtual 81, 3) := by decide +kernel
theorem dX2_putWords_64 : decode cX2_putWords 64 = .ok (.aload_n 1, 1) := by decide +kernel
theorem dX2_putWords_65 : decode cX2_putWords 65 = .ok (.aload_n 0, 1) := by decide +kernel
theorem dX2_putWords_66 : decode cX2_putWords 66 = .ok (.getfield 35, 3) := by decide +kernel
theorem dX2_putWords_69 : decode cX2_putWords 69 = .ok (.invokevirtual 72, 3) := by decide +kernel
theorem dX2_putWords_72 : decode cX2_putWords 72 = .ok (.iload_n 2, 1) := by decide +kernel
theorem dX2_putWords_73 : decode cX2_putWords 73 = .ok (.iconst 2, 1) := by decide +kernel
theorem dX2_putWords_74 : decode cX2_putWords 74 = .ok (.if_icmp .ne 48, 3) := by decide +kernel
theorem dX2_putWords_77 : decode cX2_putWords 77 = .ok (.aload_n 0, 1) := by decide +kernel
theorem dX2_putWords_78 : decode cX2_putWords 78 = .ok (.getfield 18, 3) := by decide +kernel
theorem dX2_putWords_81 : decode cX2_putWords 81 = .ok (.ifnull 41, 3) := by decide +kernel
theorem dX2_putWords_84 : decode cX2_putWords 84 = .ok (.aload_n 1, 1) := by decide +kernel
theorem dX2_putWords_85 : decode cX2_putWords 85 = .ok (.aload_n 0, 1) := by decide +kernel
theorem dX2_putWords_86 : decode cX2_putWords 86 = .ok (.getfield 18, 3) := by decide +kernel
theorem dX2_putWords_89 : decode cX2_putWords 89 = .ok (.aload_n 0, 1) := by decide +kernel
theorem dX2_putWords_90 : decode cX2_putWords 90 = .ok (.getfield 18, 3) := by decide +kernel
theorem dX2_putWords_93 : decode cX2_putWords 93 = .ok (.aload_n 0, 1) := by decide +kernel
theorem dX2_putWords_94 : decode cX2_putWords 94 = .ok (.invokevirtual 58, 3) := by decide +kernel
theorem dX2_putWords_97 : decode cX2_putWords 97 = .ok (.invokevirtual 91, 3) := by decide +kernel
theorem dX2_putWords_100 : decode cX2_putWords 100 = .ok (.invokevirtual 95, 3) := by decide +kernel
theorem dX2_putWords_103 : decode cX2_putWords 103 = .ok (.aload_n 1, 1) := by decide +kernel
theorem dX2_putWords_104 : decode cX2_putWords 104 = .ok (.ldc 97, 2) := by decide +kernel
theorem dX2_putWords_106 : decode cX2_putWords 106 = .ok (.invokevirtual 81, 3) := by decide +kernel
theorem dX2_putWords_109 : decode cX2_putWords 109 = .ok (.aload_n 1, 1) := by decide +kernel
theorem dX2_putWords_110 : decode cX2_putWords 110 = .ok (.aload_n 0, 1) := by decide +kernel
theorem dX2_putWords_111 : decode cX2_putWords 111 = .ok (.getfield 18, 3) := by decide +kernel
theorem dX2_putWords_114 : decode cX2_putWords 114 = .ok (.bipush 10, 2) := by decide +kernel
theorem dX2_putWords_116 : decode cX2_putWords 116 = .ok (.invokevirtual 91, 3) := by decide +kernel
theorem dX2_putWords_119 : decode cX2_putWords 119 = .ok (.invokevirtual 95, 3) := by decide +kernel
theorem dX2_putWords_122 : decode cX2_putWords 122 = .ok (.return_, 1) := by decide +kernel
theorem dX4_init_0 : decode cX4_init 0 = .ok (.aload_n 0, 1) := by decide +kernel
theorem dX4_init_1 : decode cX4_init 1 = .ok (.invokespecial 3, 3) := by decide +kernel
theorem dX4_init_4 : decode cX4_init 4 = .ok (.aload_n 0, 1) := by decide +kernel
theorem dX4_init_5 : decode cX4_init 5 = .ok (.iload_n 1, 1) := by decide +kernel
theorem dX4_init_6 : decode cX4_init 6 = .ok (.ifCond .ge 7, 3) := by decide +kernel
theorem dX4_init_9 : decode cX4_init 9 = .ok (.iconst 0, 1) := by decide +kernel
theorem dX4_init_10 : decode cX4_init 10 = .ok (.goto 4, 3) := by decide +kernel
theorem dX4_init_13 : decode cX4_init 13 = .ok (.iload_n 1, 1) := by decide +kernel
theorem dX4_init_14 : decode cX4_init 14 = .ok (.anewarray 9, 3) := by decide +kernel
theorem dX4_init_17 : decode cX4_init 17 = .ok (.putfield 11, 3) := by decide +kernel
theorem dX4_init_20 : decode cX4_init 20 = .ok (.iconst 0, 1) := by decide +kernel
theorem dX4_init_21 : decode cX4_init 21 = .ok (.istore_n 2, 1) := by decide +kernel
theorem dX4_init_22 : decode cX4_init 22 = .ok (.iload_n 2, 1) := by decide +kernel
theorem dX4_init_23 : decode cX4_init 23 = .ok (.aload_n 0, 1) := by decide +kernel
theorem dX4_init_24 : decode cX4_init 24 = .ok (.getfield 11, 3) := by decide +kernel
theorem dX4_init_27 : decode cX4_init 27 = .ok (.arraylength, 1) := by decide +kernel
theorem dX4_init_28 : decode cX4_init 28 = .ok (.if_icmp .ge 24, 3) := by decide +kernel
theorem dX4_init_31 : decode cX4_init 31 = .ok (.aload_n 0, 1) := by decide +kernel
theorem dX4_init_32 : decode cX4_init 32 = .ok (.getfield 11, 3) := by decide +kernel
theorem dX4_init_35 : decode cX4_init 35 = .ok (.iload_n 2, 1) := by decide +kernel
theorem dX4_init_36 : decode cX4_init 36 = .ok (.new 9, 3) := by decide +kernel
theorem dX4_init_39 : decode cX4_init 39 = .ok (.dup, 1) := by decide +kernel
theorem dX4_init_40 : decode cX4_init 40 = .ok (.bipush 80, 2) := by decide +kernel
theorem dX4_init_42 : decode cX4_init 42 = .ok (.invokespecial 17, 3) := by decide +kernel
theorem dX4_init_45 : decode cX4_init 45 = .ok (.aastore, 1) := by decide +kernel
theorem dX4_init_46 : decode cX4_init 46 = .ok (.iinc 2 1, 3) := by decide +kernel
theorem dX4_init_49 : decode cX4_init 49 = .ok (.goto (-27), 3) := by decide +kernel
theorem dX4_init_52 : decode cX4_init 52 = .ok (.return_, 1) := by decide +kernel
theorem dX4_size_0 : decode cX4_size 0 = .ok (.aload_n 0, 1) := by decide +kernel
theorem dX4_size_1 : decode cX4_size 1 = .ok (.getfield 20, 3) := by decide +kernel
theorem dX4_size_4 : decode cX4_size 4 = .ok (.ireturn, 1) := by decide +kernel
theorem dX4_clear_0 : decode cX4_clear 0 = .ok (.aload_n 0, 1) := by decide +kernel
theorem dX4_clear_1 : decode cX4_clear 1 = .ok (.iconst 0, 1) := by decide +kernel
theorem dX4_clear_2 : decode cX4_clear 2 = .ok (.putfield 20, 3) := by decide +kernel
theorem dX4_clear_5 : decode cX4_clear 5 = .ok (.return_, 1) := by decide +kernel
theorem dX4_put_0 : decode cX4_put 0 = .ok (.aload_n 0, 1) := by decide +kernel
theorem dX4_put_1 : decode cX4_put 1 = .ok (.getfield 20, 3) := by decide +kernel
theorem dX4_put_4 : decode cX4_put 4 = .ok (.ifCond .lt 27, 3) := by decide +kernel
theorem dX4_put_7 : decode cX4_put 7 = .ok (.aload_n 0, 1) := by decide +kernel
theorem dX4_put_8 : decode cX4_put 8 = .ok (.getfield 20, 3) := by decide +kernel
theorem dX4_put_11 : decode cX4_put 11 = .ok (.aload_n 0, 1) := by decide +kernel
theorem dX4_put_12 : decode cX4_put 12 = .ok (.getfield 11, 3) := by decide +kernel
theorem dX4_put_15 : decode cX4_put 15 = .ok (.arraylength, 1) := by decide +kernel
theorem dX4_put_16 : decode cX4_put 16 = .ok (.if_icmp .ge 15, 3) := by decide +kernel
theorem dX4_put_19 : decode cX4_put 19 = .ok (.aload_n 0, 1) := by decide +kernel
theorem dX4_put_20 : decode cX4_put 20 = .ok (.getfield 11, 3) := by decide +kernel
theorem dX4_put_23 : decode cX4_put 23 = .ok (.aload_n 0, 1) := by decide +kernel
theorem dX4_put_24 : decode cX4_put 24 = .ok (.getfield 20, 3) := by decide +kernel
theorem dX4_put_27 : decode cX4_put 27 = .ok (.aaload, 1) := by decide +kernel
theorem dX4_put_28 : decode cX4_put 28 = .ok (.goto 4, 3) := by decide +kernel
theorem dX4_put_31 : decode cX4_put 31 = .ok (.aconst_null, 1) := by decide +kernel
theorem dX4_put_32 : decode cX4_put 32 = .ok (.astore_n 2, 1) := by decide +kernel
theorem dX4_put_33 : decode cX4_put 33 = .ok (.aload_n 2, 1) := by decide +kernel
theorem dX4_put_34 : decode cX4_put 34 = .ok (.ifnull 18, 3) := by decide +kernel
theorem dX4_put_37 : decode cX4_put 37 = .ok (.aload_n 2, 1) := by decide +kernel
theorem dX4_put_38 : decode cX4_put 38 = .ok (.aload_n 1, 1) := by decide +kernel
theorem dX4_put_39 : decode cX4_put 39 = .ok (.invokevirtual 24, 3) := by decide +kernel
theorem dX4_put_42 : decode cX4_put 42 = .ok (.aload_n 0, 1) := by decide +kernel
theorem dX4_put_43 : decode cX4_put 43 = .ok (.dup, 1) := by decide +kernel
theorem dX4_put_44 : decode cX4_put 44 = .ok (.getfield 20, 3) := by decide +kernel
theorem dX4_put_47 : decode cX4_put 47 = .ok (.iconst 1, 1) := by decide +kernel
theorem dX4_put_48 : decode cX4_put 48 = .ok (.iadd, 1) := by decide +kernel
theorem dX4_put_49 : decode cX4_put 49 = .ok (.putfield 20, 3) := by decide +kernel
theorem dX4_put_52 : decode cX4_put 52 = .ok (.return_, 1) := by decide +kernel
abbrev mX2_region : gM := (yX2_region, cX2_region, 2, (Option.some (FieldType.object "BrailleDesk$Element")), [])
theorem caX2_region : cal mX2_region 0 := ⟨xw 1023 (by decide +kernel) rfl, xw 31 (by decide +kernel) rfl, by decide, by decide +kernel⟩
theorem cvX2_region : calV mX2_region := ⟨xw 1021 (by decide +kernel) rfl, xw 1022 (by decide +kernel) rfl⟩
abbrev mX2_canHaveFocus : gM := (yX2_canHaveFocus, cX2_canHaveFocus, 1, (Option.some FieldType.boolean), [])
theorem caX2_canHaveFocus : cal mX2_canHaveFocus 0 := ⟨xw 696 (by decide +kernel) rfl, xw 31 (by decide +kernel) rfl, by decide, by decide +kernel⟩
theorem cvX2_canHaveFocus : calV mX2_canHaveFocus := ⟨xw 694 (by decide +kernel) rfl, xw 695 (by decide +kernel) rfl⟩
abbrev mX2_refuge : gM := (yX2_refuge, cX2_refuge, 4, (Option.some (FieldType.object "BrailleDesk$Element")), [])
theorem caX2_refuge : cal mX2_refuge 0 := ⟨xw 1048 (by decide +kernel) rfl, xw 31 (by decide +kernel) rfl, by decide, by decide +kernel⟩
theorem cvX2_refuge : calV mX2_refuge := ⟨xw 1046 (by decide +kernel) rfl, xw 1047 (by decide +kernel) rfl⟩
abbrev mX2_shownUpTo : gM := (yX2_shownUpTo, cX2_shownUpTo, 4, (Option.some FieldType.int), [])
theorem caX2_shownUpTo : cal mX2_shownUpTo 1 := ⟨xw 660 (by decide +kernel) rfl, xw 31 (by decide +kernel) rfl, by decide, by decide +kernel⟩
theorem cvX2_shownUpTo : calV mX2_shownUpTo := ⟨xw 659 (by decide +kernel) rfl, xw 8 (by decide +kernel) rfl⟩
abbrev mX2_putWords : gM := (yX2_putWords, cX2_putWords, 3, (Option.none : Option FieldType), [])
theorem caX2_putWords : cal mX2_putWords 1 := ⟨xw 648 (by decide +kernel) rfl, xw 31 (by decide +kernel) rfl, by decide, by decide +kernel⟩
theorem cvX2_putWords : calV mX2_putWords := ⟨xw 646 (by decide +kernel) rfl, xw 647 (by decide +kernel) rfl⟩
abbrev mX4_init : gM := (yX4_init, cX4_init, 3, (Option.none : Option FieldType), [])
theorem caX4_init : cal mX4_init 1 := ⟨xw 190 (by decide +kernel) rfl, xw 34 (by decide +kernel) rfl, by decide, by decide +kernel⟩
theorem ciX4_init : Cond.instanceMethod yX4_init ∈ XW := xw 189 (by decide +kernel) rfl
abbrev mX4_size : gM := (yX4_size, cX4_size, 1, (Option.some FieldType.int), [])
theorem caX4_size : cal mX4_size 0 := ⟨xw 721 (by decide +kernel) rfl, xw 34 (by decide +kernel) rfl, by decide, by decide +kernel⟩
theorem cvX4_size : calV mX4_size := ⟨xw 719 (by decide +kernel) rfl, xw 720 (by decide +kernel) rfl⟩
abbrev mX4_clear : gM := (yX4_clear, cX4_clear, 1, (Option.none : Option FieldType), [])
theorem caX4_clear : cal mX4_clear 0 := ⟨xw 725 (by decide +kernel) rfl, xw 34 (by decide +kernel) rfl, by decide, by decide +kernel⟩
theorem cvX4_clear : calV mX4_clear := ⟨xw 723 (by decide +kernel) rfl, xw 724 (by decide +kernel) rfl⟩
abbrev mX4_put : gM := (yX4_put, cX4_put, 3, (Option.none : Option FieldType), [])
theorem caX4_put : cal mX4_put 1 := ⟨xw 830 (by decide +kernel) rfl, xw 34 (by decide +kernel) rfl, by decide, by decide +kernel⟩
theorem cvX4_put : calV mX4_put := ⟨xw 828 (by decide +kernel) rfl, xw 829 (by decide +kernel) rfl⟩
theorem lkX2_62 : Cond.methodLink RX2 62 yX2_size ∈ XW := xw 1049 (by decide +kernel) rfl
theorem lkX2_66 : Cond.methodLink RX2 66 yX2_shownChild ∈ XW := xw 661 (by decide +kernel) rfl
theorem lkX2_69 : Cond.methodLink RX2 69 yX2_levelNow ∈ XW := xw 649 (by decide +kernel) rfl
theorem lkX2_72 : Cond.methodLink RX2 72 yX1_part ∈ XW := xw 650 (by decide +kernel) rfl
theorem lkX2_77 : Cond.methodLink RX2 77 yX2_kindWord ∈ XW := xw 652 (by decide +kernel) rfl
theorem lkX2_81 : Cond.methodLink RX2 81 yX1_part_ ∈ XW := xw 653 (by decide +kernel) rfl
theorem lkX2_76 : Cond.methodLink RX2 76 yX1_size ∈ XW := xw 651 (by decide +kernel) rfl
theorem flX2_84 : fl RX2 84 1 8 := ⟨by decide, by decide, xw 115 (by decide +kernel) rfl⟩
theorem lkX2_91 : Cond.methodLink RX2 91 yX2_shownUpTo ∈ XW := xw 657 (by decide +kernel) rfl
theorem lkX2_95 : Cond.methodLink RX2 95 yX1_part__ ∈ XW := xw 665 (by decide +kernel) rfl
theorem lkX4_3 : Cond.methodLink RX4 3 objectInit ∈ XW := xw 191 (by decide +kernel) rfl
theorem ccX4_9 : Cond.classLink RX4 9 (hk_C 0) ∈ XW := xw 192 (by decide +kernel) rfl
theorem flX4_11 : fl RX4 11 3 0 := ⟨by decide, by decide, xw 195 (by decide +kernel) rfl⟩
theorem lkX4_17 : Cond.methodLink RX4 17 yX1_init ∈ XW := xw 194 (by decide +kernel) rfl
theorem pl_X4 : plainName RX4 = true := by decide +kernel
theorem flX4_20 : fl RX4 20 3 1 := ⟨by decide, by decide, xw 196 (by decide +kernel) rfl⟩
theorem lkX4_24 : Cond.methodLink RX4 24 yX1_copy ∈ XW := xw 831 (by decide +kernel) rfl
/-! BrailleDesk$Element.region -/
theorem lX2_region_5 {G : gG} {Q : hQ} {P : ((Option Nat) ⊕ Unit) → Prop} {k n : Nat} (h : hp) (hJ : ∀ q : Unit, P (.inr q) → gV G mX2_region 0 Q 28 [none, none] [] (k) (n) h) (hR : ∀ r : (Option Nat), P (.inl (r)) → (pP gR Q h) r) : ∀ (fu : Nat) (a : (Option Nat)), okB (itr (fX2_region_B5 h) fu a) P → gV G mX2_region 0 Q 5 [none, some (sr a)] [] (k) (n) h :=
  lpg (X := fun (a : (Option Nat)) => gV G mX2_region 0 Q 5 [none, some (sr a)] [] (k) (n) h) (fun a P2 hL hE hF => by
    delta fX2_region_B5 at hF
    refine v_aload_n (pc := 5) (i := 1) dX2_region_5 rfl rfl ?_
    refine s_ifnull (pc := 6) 28 dX2_region_6 rfl hF (fun hF => ?_) (fun hF => ?_)
    · exact v_lle [none, none] trivial (hJ () (hE _ (okB_some hF)))
    refine v_aload_n (pc := 9) (i := 1) dX2_region_9 rfl rfl ?_
    refine s_getI (pc := 10) dX2_region_10 flX2_15 rfl hF (fun x1 hF => ?_)
    refine v_bipush (pc := 13) (v := (7 : Int32)) dX2_region_13 rfl ?_
    refine v_icmp_ne (pc := 15) 20 dX2_region_15 rfl (fun hc => ?_) (fun hc => ?_)
    · replace hF := (okB_if hF).2 hc
      refine v_aload_n (pc := 20) (i := 1) dX2_region_20 rfl rfl ?_
      refine s_getR (pc := 21) dX2_region_21 flX2_18 rfl hF (fun x2 hF => ?_)
      refine v_astore_n (pc := 24) (i := 1) [none, some (sr x2)] dX2_region_24 rfl (by decide) rfl rfl ?_
      refine v_goto (pc := 25) 5 dX2_region_25 rfl ?_
      exact v_lle [none, some (sr x2)] ⟨rfl, trivial⟩ (hL x2 (okB_some hF))
    replace hF := (okB_if hF).1 hc
    refine v_aload_n (pc := 18) (i := 1) dX2_region_18 rfl rfl ?_
    exact v_aret (pc := 19) dX2_region_19 rfl (Or.inl ⟨_, rfl⟩) (hR _ (hE _ (okB_some hF))))
theorem tX2_region {G : gG} (a0 : Nat) (h : hp) (Q : hQ) (hF : okB (fX2_region a0 h) (pP gR Q h)) : gS G mX2_region 0 0 0 [sr (some a0)] h Q := by
  delta fX2_region at hF
  refine gS_at [some (sr (some a0)), none] pl_X2 rfl (Nat.le_of_ble_eq_true rfl) rfl ?_
  refine v_aload_n (pc := 0) (i := 0) dX2_region_0 rfl rfl ?_
  refine s_getR (pc := 1) dX2_region_1 flX2_18 rfl hF (fun x1 hF => ?_)
  refine v_astore_n (pc := 4) (i := 1) [some (sr (some a0)), some (sr x1)] dX2_region_4 rfl (by decide) rfl rfl ?_
  refine mgR (X := fun q2 => gV G mX2_region 0 Q 28 [none, none] [] (0) (0) h) hF (fun _ hj3 hr3 hF => v_lle [none, some (sr x1)] ⟨rfl, trivial⟩ (lX2_region_5 h hj3 (fun _ hp => (hr3 _ hp)) FU x1 hF)) (fun q2 hF => ?_)
  refine v_null (pc := 28) dX2_region_28 ?_
  exact v_aret (pc := 29) dX2_region_29 rfl (Or.inl ⟨_, rfl⟩) (okr hF fun q => q)
/-! BrailleDesk$Element.canHaveFocus -/
theorem tX2_canHaveFocus {G : gG} (a0 : Nat) (h : hp) (Q : hQ) (hF : okB (fX2_canHaveFocus a0 h) (pP gI Q h)) : gS G mX2_canHaveFocus 0 0 0 [sr (some a0)] h Q := by
  delta fX2_canHaveFocus at hF
  refine gS_at [some (sr (some a0))] pl_X2 rfl (Nat.le_of_ble_eq_true rfl) rfl ?_
  refine v_aload_n (pc := 0) (i := 0) dX2_canHaveFocus_0 rfl rfl ?_
  refine s_getI (pc := 1) dX2_canHaveFocus_1 flX2_15 rfl hF (fun x1 hF => ?_)
  refine v_iconst (pc := 4) (v := (2 : Int32)) dX2_canHaveFocus_4 rfl ?_
  refine v_icmp_eq (pc := 5) 24 dX2_canHaveFocus_5 rfl (fun hc => ?_) (fun hc => ?_)
  · replace hF := (okB_if hF).1 hc
    refine v_iconst (pc := 24) (v := (1 : Int32)) dX2_canHaveFocus_24 rfl ?_
    refine v_goto (pc := 25) 29 dX2_canHaveFocus_25 rfl ?_
    exact v_iret (pc := 29) dX2_canHaveFocus_29 rfl rfl (okr hF fun q => q)
  replace hF := (okB_if hF).2 hc
  refine v_aload_n (pc := 8) (i := 0) dX2_canHaveFocus_8 rfl rfl ?_
  refine s_getI (pc := 9) dX2_canHaveFocus_9 flX2_15 rfl hF (fun x2 hF => ?_)
  refine v_iconst (pc := 12) (v := (3 : Int32)) dX2_canHaveFocus_12 rfl ?_
  refine v_icmp_eq (pc := 13) 24 dX2_canHaveFocus_13 rfl (fun hc => ?_) (fun hc => ?_)
  · replace hF := (okB_if hF).1 hc
    refine v_iconst (pc := 24) (v := (1 : Int32)) dX2_canHaveFocus_24 rfl ?_
    refine v_goto (pc := 25) 29 dX2_canHaveFocus_25 rfl ?_
    exact v_iret (pc := 29) dX2_canHaveFocus_29 rfl rfl (okr hF fun q => q)
  replace hF := (okB_if hF).2 hc
  refine v_aload_n (pc := 16) (i := 0) dX2_canHaveFocus_16 rfl rfl ?_
  refine s_getI (pc := 17) dX2_canHaveFocus_17 flX2_15 rfl hF (fun x3 hF => ?_)
  refine v_iconst (pc := 20) (v := (4 : Int32)) dX2_canHaveFocus_20 rfl ?_
  refine v_icmp_ne (pc := 21) 28 dX2_canHaveFocus_21 rfl (fun hc => ?_) (fun hc => ?_)
  · replace hF := (okB_if hF).2 hc
    refine v_iconst (pc := 28) (v := (0 : Int32)) dX2_canHaveFocus_28 rfl ?_
    exact v_iret (pc := 29) dX2_canHaveFocus_29 rfl rfl (okr hF fun q => q)
  replace hF := (okB_if hF).1 hc
  refine v_iconst (pc := 24) (v := (1 : Int32)) dX2_canHaveFocus_24 rfl ?_
  refine v_goto (pc := 25) 29 dX2_canHaveFocus_25 rfl ?_
  exact v_iret (pc := 29) dX2_canHaveFocus_29 rfl rfl (okr hF fun q => q)
/-! BrailleDesk$Element.refuge -/
theorem lX2_refuge_22 {G : gG} {Q : hQ} {P : ((Option Nat) ⊕ Unit) → Prop} {k n : Nat} (c0 : Nat) (c1 : Int32) (h : hp) (hJ : ∀ q : Unit, P (.inr q) → gV G mX2_refuge 2 Q 54 [some (sr (some c0)), some (si c1), none, none] [] (k) (n) h) (hR : ∀ r : (Option Nat), P (.inl (r)) → (pP gR Q h) r) : ∀ (fu : Nat) (a : Int32), okB (itr (fX2_refuge_B22 c0 c1 h) fu a) P → gV G mX2_refuge 2 Q 22 [some (sr (some c0)), some (si c1), some (si a), none] [] (k) (n) h :=
  lpg (X := fun (a : Int32) => gV G mX2_refuge 2 Q 22 [some (sr (some c0)), some (si c1), some (si a), none] [] (k) (n) h) (fun a P2 hL hE hF => by
    delta fX2_refuge_B22 at hF
    refine v_iload_n (pc := 22) (i := 2) dX2_refuge_22 rfl rfl ?_
    refine v_aload_n (pc := 23) (i := 0) dX2_refuge_23 rfl rfl ?_
    refine s_getR (pc := 24) dX2_refuge_24 flX2_18 rfl hF (fun x1 hF => ?_)
    refine cp_V (pc := 27) gI (as := []) (st := [si a]) (ci := 1) (N := mX2_size) (k := k) (n := n) (k1 := 0) (n1 := 0) dX2_refuge_27 lkX2_62 caX2_size cvX2_size rfl (by decide) rfl (fun b Q1 hq => tX2_size b h Q1 hq) ⟨by decide, by decide⟩ (Nat.le_of_ble_eq_true rfl) rfl hF (fun x2 hF => ?_)
    show gV G mX2_refuge 2 Q 30 [some (sr (some c0)), some (si c1), some (si a), none] [si x2, si a] (k) (n) h
    refine v_icmp_ge (pc := 30) 54 dX2_refuge_30 rfl (fun hc => ?_) (fun hc => ?_)
    · replace hF := (okB_if hF).1 hc
      exact v_lle [some (sr (some c0)), some (si c1), none, none] ⟨rfl, rfl, trivial⟩ (hJ () (hE _ (okB_some hF)))
    replace hF := (okB_if hF).2 hc
    refine v_aload_n (pc := 33) (i := 0) dX2_refuge_33 rfl rfl ?_
    refine s_getR (pc := 34) dX2_refuge_34 flX2_18 rfl hF (fun x3 hF => ?_)
    refine v_iload_n (pc := 37) (i := 2) dX2_refuge_37 rfl rfl ?_
    refine cp_V (pc := 38) gR (as := [si a]) (st := []) (ci := 1) (N := mX2_shownChild) (k := k) (n := n) (k1 := 0) (n1 := 0) dX2_refuge_38 lkX2_66 caX2_shownChild cvX2_shownChild rfl (by decide) rfl (fun b Q1 hq => tX2_shownChild b a h Q1 hq) ⟨by decide, by decide⟩ (Nat.le_of_ble_eq_true rfl) rfl hF (fun x4 hF => ?_)
    show gV G mX2_refuge 2 Q 41 [some (sr (some c0)), some (si c1), some (si a), none] [sr x4] (k) (n) h
    refine v_astore_n (pc := 41) (i := 3) [some (sr (some c0)), some (si c1), some (si a), some (sr x4)] dX2_refuge_41 rfl (by decide) rfl rfl ?_
    refine v_aload_n (pc := 42) (i := 3) dX2_refuge_42 rfl rfl ?_
    refine s_ifnull (pc := 43) 48 dX2_refuge_43 rfl hF (fun hF => ?_) (fun hF => ?_)
    · refine v_iinc (pc := 48) (i := 2) (a + (1 : Int32)) [some (sr (some c0)), some (si c1), some (si (a + (1 : Int32))), some (sr x4)] dX2_refuge_48 rfl rfl rfl rfl ?_
      refine v_goto (pc := 51) 22 dX2_refuge_51 rfl ?_
      exact v_lle [some (sr (some c0)), some (si c1), some (si (a + (1 : Int32))), none] ⟨rfl, rfl, rfl, trivial⟩ (hL (a + (1 : Int32)) (okB_some hF))
    refine v_aload_n (pc := 46) (i := 3) dX2_refuge_46 rfl rfl ?_
    exact v_aret (pc := 47) dX2_refuge_47 rfl (Or.inl ⟨_, rfl⟩) (hR _ (hE _ (okB_some hF))))
theorem lX2_refuge_58 {G : gG} {Q : hQ} {P : ((Option Nat) ⊕ Unit) → Prop} {k n : Nat} (c0 : Nat) (h : hp) (hJ : ∀ q : Unit, P (.inr q) → gV G mX2_refuge 2 Q 83 [some (sr (some c0)), none, none, none] [] (k) (n) h) (hR : ∀ r : (Option Nat), P (.inl (r)) → (pP gR Q h) r) : ∀ (fu : Nat) (a : Int32), okB (itr (fX2_refuge_B58 c0 h) fu a) P → gV G mX2_refuge 2 Q 58 [some (sr (some c0)), none, some (si a), none] [] (k) (n) h :=
  lpg (X := fun (a : Int32) => gV G mX2_refuge 2 Q 58 [some (sr (some c0)), none, some (si a), none] [] (k) (n) h) (fun a P2 hL hE hF => by
    delta fX2_refuge_B58 at hF
    refine v_iload_n (pc := 58) (i := 2) dX2_refuge_58 rfl rfl ?_
    refine v_if_lt (pc := 59) 83 dX2_refuge_59 rfl (fun hc => ?_) (fun hc => ?_)
    · replace hF := (okB_if hF).1 hc
      exact v_lle [some (sr (some c0)), none, none, none] ⟨rfl, trivial⟩ (hJ () (hE _ (okB_some hF)))
    replace hF := (okB_if hF).2 hc
    refine v_aload_n (pc := 62) (i := 0) dX2_refuge_62 rfl rfl ?_
    refine s_getR (pc := 63) dX2_refuge_63 flX2_18 rfl hF (fun x1 hF => ?_)
    refine v_iload_n (pc := 66) (i := 2) dX2_refuge_66 rfl rfl ?_
    refine cp_V (pc := 67) gR (as := [si a]) (st := []) (ci := 1) (N := mX2_shownChild) (k := k) (n := n) (k1 := 0) (n1 := 0) dX2_refuge_67 lkX2_66 caX2_shownChild cvX2_shownChild rfl (by decide) rfl (fun b Q1 hq => tX2_shownChild b a h Q1 hq) ⟨by decide, by decide⟩ (Nat.le_of_ble_eq_true rfl) rfl hF (fun x2 hF => ?_)
    show gV G mX2_refuge 2 Q 70 [some (sr (some c0)), none, some (si a), none] [sr x2] (k) (n) h
    refine v_astore_n (pc := 70) (i := 3) [some (sr (some c0)), none, some (si a), some (sr x2)] dX2_refuge_70 rfl (by decide) rfl rfl ?_
    refine v_aload_n (pc := 71) (i := 3) dX2_refuge_71 rfl rfl ?_
    refine s_ifnull (pc := 72) 77 dX2_refuge_72 rfl hF (fun hF => ?_) (fun hF => ?_)
    · refine v_iinc (pc := 77) (i := 2) (a + (-1 : Int32)) [some (sr (some c0)), none, some (si (a + (-1 : Int32))), some (sr x2)] dX2_refuge_77 rfl rfl rfl rfl ?_
      refine v_goto (pc := 80) 58 dX2_refuge_80 rfl ?_
      exact v_lle [some (sr (some c0)), none, some (si (a + (-1 : Int32))), none] ⟨rfl, rfl, trivial⟩ (hL (a + (-1 : Int32)) (okB_some hF))
    refine v_aload_n (pc := 75) (i := 3) dX2_refuge_75 rfl rfl ?_
    exact v_aret (pc := 76) dX2_refuge_76 rfl (Or.inl ⟨_, rfl⟩) (hR _ (hE _ (okB_some hF))))
theorem tX2_refuge {G : gG} (a0 : Nat) (h : hp) (Q : hQ) (hF : okB (fX2_refuge a0 h) (pP gR Q h)) : gS G mX2_refuge 2 0 0 [sr (some a0)] h Q := by
  delta fX2_refuge at hF
  refine gS_at [some (sr (some a0)), none, none, none] pl_X2 rfl (Nat.le_of_ble_eq_true rfl) rfl ?_
  refine v_aload_n (pc := 0) (i := 0) dX2_refuge_0 rfl rfl ?_
  refine s_getR (pc := 1) dX2_refuge_1 flX2_18 rfl hF (fun x1 hF => ?_)
  refine s_ifnonnull (pc := 4) 9 dX2_refuge_4 rfl hF (fun hF => ?_) (fun hF => ?_)
  · refine v_aload_n (pc := 9) (i := 0) dX2_refuge_9 rfl rfl ?_
    refine s_getR (pc := 10) dX2_refuge_10 flX2_18 rfl hF (fun x2 hF => ?_)
    refine v_aload_n (pc := 13) (i := 0) dX2_refuge_13 rfl rfl ?_
    refine cp_V (pc := 14) gI (as := [sr (some a0)]) (st := []) (ci := 1) (N := mX2_placeOf) (k := 0) (n := 0) (k1 := 0) (n1 := 0) dX2_refuge_14 lkX2_58 caX2_placeOf cvX2_placeOf rfl (by decide) rfl (fun b Q1 hq => tX2_placeOf b (some a0) h Q1 hq) ⟨by decide, by decide⟩ (Nat.le_of_ble_eq_true rfl) rfl hF (fun x3 hF => ?_)
    show gV G mX2_refuge 2 Q 17 [some (sr (some a0)), none, none, none] [si x3] (0) (0) h
    refine v_istore_n (pc := 17) (i := 1) [some (sr (some a0)), some (si x3), none, none] dX2_refuge_17 rfl (by decide) rfl rfl ?_
    refine v_iload_n (pc := 18) (i := 1) dX2_refuge_18 rfl rfl ?_
    refine v_iconst (pc := 19) (v := (1 : Int32)) dX2_refuge_19 rfl ?_
    refine v_iadd (pc := 20) dX2_refuge_20 ?_
    refine v_istore_n (pc := 21) (i := 2) [some (sr (some a0)), some (si x3), some (si (x3 + (1 : Int32))), none] dX2_refuge_21 rfl (by decide) rfl rfl ?_
    refine mgR (X := fun q4 => gV G mX2_refuge 2 Q 54 [some (sr (some a0)), some (si x3), none, none] [] (0) (0) h) hF (fun _ hj8 hr8 hF => v_lle [some (sr (some a0)), some (si x3), some (si (x3 + (1 : Int32))), none] ⟨rfl, rfl, rfl, trivial⟩ (lX2_refuge_22 a0 x3 h hj8 (fun _ hp => (hr8 _ hp)) FU (x3 + (1 : Int32)) hF)) (fun q4 hF => ?_)
    refine v_iload_n (pc := 54) (i := 1) dX2_refuge_54 rfl rfl ?_
    refine v_iconst (pc := 55) (v := (1 : Int32)) dX2_refuge_55 rfl ?_
    refine v_isub (pc := 56) dX2_refuge_56 ?_
    refine v_istore_n (pc := 57) (i := 2) [some (sr (some a0)), some (si x3), some (si (x3 - (1 : Int32))), none] dX2_refuge_57 rfl (by decide) rfl rfl ?_
    refine mgR (X := fun q5 => gV G mX2_refuge 2 Q 83 [some (sr (some a0)), none, none, none] [] (0) (0) h) hF (fun _ hj7 hr7 hF => v_lle [some (sr (some a0)), none, some (si (x3 - (1 : Int32))), none] ⟨rfl, rfl, trivial⟩ (lX2_refuge_58 a0 h hj7 (fun _ hp => (hr7 _ hp)) FU (x3 - (1 : Int32)) hF)) (fun q5 hF => ?_)
    refine v_aload_n (pc := 83) (i := 0) dX2_refuge_83 rfl rfl ?_
    refine s_getR (pc := 84) dX2_refuge_84 flX2_18 rfl hF (fun x6 hF => ?_)
    exact v_aret (pc := 87) dX2_refuge_87 rfl (Or.inl ⟨_, rfl⟩) (okr hF fun q => q)
  refine v_aload_n (pc := 7) (i := 0) dX2_refuge_7 rfl rfl ?_
  exact v_aret (pc := 8) dX2_refuge_8 rfl (Or.inl ⟨_, rfl⟩) (okr hF fun q => q)
/-! BrailleDesk$Element.shownUpTo -/
theorem lX2_shownUpTo_4 {G : gG} {Q : hQ} {P : Int32 → Prop} {k n : Nat} (c0 : Nat) (c1 : Int32) (h : hp) (hJ : ∀ q : Int32, P q → gV G mX2_shownUpTo 1 Q 34 [none, none, some (si q), none] [] (k) (n) h) : ∀ (fu : Nat) (a : (Int32 × Int32)), okB (itr (fX2_shownUpTo_B4 c0 c1 h) fu a) P → gV G mX2_shownUpTo 1 Q 4 [some (sr (some c0)), some (si c1), some (si a.1), some (si a.2)] [] (k) (n) h :=
  lpg (X := fun (a : (Int32 × Int32)) => gV G mX2_shownUpTo 1 Q 4 [some (sr (some c0)), some (si c1), some (si a.1), some (si a.2)] [] (k) (n) h) (fun a P2 hL hE hF => by
    delta fX2_shownUpTo_B4 at hF
    refine v_iload_n (pc := 4) (i := 3) dX2_shownUpTo_4 rfl rfl ?_
    refine v_iload_n (pc := 5) (i := 1) dX2_shownUpTo_5 rfl rfl ?_
    refine v_icmp_gt (pc := 6) 34 dX2_shownUpTo_6 rfl (fun hc => ?_) (fun hc => ?_)
    · replace hF := (okB_if hF).1 hc
      exact v_lle [none, none, some (si a.1), none] ⟨rfl, trivial⟩ (hJ a.1 (hE _ (okB_some hF)))
    replace hF := (okB_if hF).2 hc
    refine v_iload_n (pc := 9) (i := 3) dX2_shownUpTo_9 rfl rfl ?_
    refine v_aload_n (pc := 10) (i := 0) dX2_shownUpTo_10 rfl rfl ?_
    refine s_getI (pc := 11) dX2_shownUpTo_11 flX2_47 rfl hF (fun x1 hF => ?_)
    refine v_icmp_ge (pc := 14) 34 dX2_shownUpTo_14 rfl (fun hc => ?_) (fun hc => ?_)
    · replace hF := (okB_if hF).1 hc
      exact v_lle [none, none, some (si a.1), none] ⟨rfl, trivial⟩ (hJ a.1 (hE _ (okB_some hF)))
    replace hF := (okB_if hF).2 hc
    refine v_aload_n (pc := 17) (i := 0) dX2_shownUpTo_17 rfl rfl ?_
    refine v_iload_n (pc := 18) (i := 3) dX2_shownUpTo_18 rfl rfl ?_
    refine cp_V (pc := 19) gR (as := [si a.2]) (st := []) (ci := 1) (N := mX2_shownChild) (k := k) (n := n) (k1 := 0) (n1 := 0) dX2_shownUpTo_19 lkX2_66 caX2_shownChild cvX2_shownChild rfl (by decide) rfl (fun b Q1 hq => tX2_shownChild b a.2 h Q1 hq) ⟨by decide, by decide⟩ (Nat.le_of_ble_eq_true rfl) rfl hF (fun x2 hF => ?_)
    show gV G mX2_shownUpTo 1 Q 22 [some (sr (some c0)), some (si c1), some (si a.1), some (si a.2)] [sr x2] (k) (n) h
    refine s_ifnull (pc := 22) 28 dX2_shownUpTo_22 rfl hF (fun hF => ?_) (fun hF => ?_)
    · refine v_iinc (pc := 28) (i := 3) (a.2 + (1 : Int32)) [some (sr (some c0)), some (si c1), some (si a.1), some (si (a.2 + (1 : Int32)))] dX2_shownUpTo_28 rfl rfl rfl rfl ?_
      refine v_goto (pc := 31) 4 dX2_shownUpTo_31 rfl ?_
      exact v_lle [some (sr (some c0)), some (si c1), some (si a.1), some (si (a.2 + (1 : Int32)))] ⟨rfl, rfl, rfl, rfl, trivial⟩ (hL (a.1, a.2 + (1 : Int32)) (okB_some hF))
    refine v_iinc (pc := 25) (i := 2) (a.1 + (1 : Int32)) [some (sr (some c0)), some (si c1), some (si (a.1 + (1 : Int32))), some (si a.2)] dX2_shownUpTo_25 rfl rfl rfl rfl ?_
    refine v_iinc (pc := 28) (i := 3) (a.2 + (1 : Int32)) [some (sr (some c0)), some (si c1), some (si (a.1 + (1 : Int32))), some (si (a.2 + (1 : Int32)))] dX2_shownUpTo_28 rfl rfl rfl rfl ?_
    refine v_goto (pc := 31) 4 dX2_shownUpTo_31 rfl ?_
    exact v_lle [some (sr (some c0)), some (si c1), some (si (a.1 + (1 : Int32))), some (si (a.2 + (1 : Int32)))] ⟨rfl, rfl, rfl, rfl, trivial⟩ (hL (a.1 + (1 : Int32), a.2 + (1 : Int32)) (okB_some hF)))
theorem tX2_shownUpTo {G : gG} (a0 : Nat) (a1 : Int32) (h : hp) (Q : hQ) (hF : okB (fX2_shownUpTo a0 a1 h) (pP gI Q h)) : gS G mX2_shownUpTo 1 0 0 [sr (some a0), si a1] h Q := by
  delta fX2_shownUpTo at hF
  refine gS_at [some (sr (some a0)), some (si a1), none, none] pl_X2 rfl (Nat.le_of_ble_eq_true rfl) rfl ?_
  refine v_iconst (pc := 0) (v := (0 : Int32)) dX2_shownUpTo_0 rfl ?_
  refine v_istore_n (pc := 1) (i := 2) [some (sr (some a0)), some (si a1), some (si (0 : Int32)), none] dX2_shownUpTo_1 rfl (by decide) rfl rfl ?_
  refine v_iconst (pc := 2) (v := (0 : Int32)) dX2_shownUpTo_2 rfl ?_
  refine v_istore_n (pc := 3) (i := 3) [some (sr (some a0)), some (si a1), some (si (0 : Int32)), some (si (0 : Int32))] dX2_shownUpTo_3 rfl (by decide) rfl rfl ?_
  refine mg (X := fun q1 => gV G mX2_shownUpTo 1 Q 34 [none, none, some (si q1), none] [] (0) (0) h) hF (fun _ hj2 hF => v_lle [some (sr (some a0)), some (si a1), some (si (0 : Int32)), some (si (0 : Int32))] ⟨rfl, rfl, rfl, rfl, trivial⟩ (lX2_shownUpTo_4 a0 a1 h hj2 FU ((0 : Int32), (0 : Int32)) hF)) (fun q1 hF => ?_)
  refine v_iload_n (pc := 34) (i := 2) dX2_shownUpTo_34 rfl rfl ?_
  exact v_iret (pc := 35) dX2_shownUpTo_35 rfl rfl (okr hF fun q => q)
/-! BrailleDesk$Element.putWords -/
theorem tX2_putWords {G : gG} (a0 : Nat) (a1 : (Option Nat)) (h : hp) (Q : hQ) (hF : okB (fX2_putWords a0 a1 h) (pH gU Q)) : gS G mX2_putWords 5 0 0 [sr (some a0), sr a1] h Q := by
  delta fX2_putWords at hF
  refine gS_at [some (sr (some a0)), some (sr a1), none] pl_X2 rfl (Nat.le_of_ble_eq_true rfl) rfl ?_
  refine v_aload_n (pc := 0) (i := 0) dX2_putWords_0 rfl rfl ?_
  refine cp_V (pc := 1) gI (as := []) (st := []) (ci := 1) (N := mX2_levelNow) (k := 0) (n := 0) (k1 := 0) (n1 := 0) dX2_putWords_1 lkX2_69 caX2_levelNow cvX2_levelNow rfl (by decide) rfl (fun b Q1 hq => tX2_levelNow b h Q1 hq) ⟨by decide, by decide⟩ (Nat.le_of_ble_eq_true rfl) rfl hF (fun x1 hF => ?_)
  show gV G mX2_putWords 5 Q 4 [some (sr (some a0)), some (sr a1), none] [si x1] (0) (0) h
  refine v_istore_n (pc := 4) (i := 2) [some (sr (some a0)), some (sr a1), some (si x1)] dX2_putWords_4 rfl (by decide) rfl rfl ?_
  refine v_aload_n (pc := 5) (i := 1) dX2_putWords_5 rfl rfl ?_
  refine v_aload_n (pc := 6) (i := 0) dX2_putWords_6 rfl rfl ?_
  refine s_getR (pc := 7) dX2_putWords_7 flX2_31 rfl hF (fun x2 hF => ?_)
  refine ch_V (pc := 10) gU (as := [sr x2]) (st := []) (ci := 0) (N := mX1_part) (k := 0) (n := 0) (k1 := 0) (n1 := 0) dX2_putWords_10 lkX2_72 caX1_part cvX1_part rfl (by decide) rfl (fun b Q1 hq => tX1_part b x2 h Q1 hq) ⟨by decide, by decide⟩ (Nat.le_of_ble_eq_true rfl) rfl hF (fun x3 h4 hF => ?_)
  show gV G mX2_putWords 5 Q 13 [some (sr (some a0)), some (sr a1), some (si x1)] [] (0) (0) h4
  refine v_iload_n (pc := 13) (i := 2) dX2_putWords_13 rfl rfl ?_
  refine mg (X := fun q5 => gV G mX2_putWords 5 Q 38 [some (sr (some a0)), some (sr a1), some (si x1)] [] (0) (0) q5) hF (fun _ hj6 hF => ?_) (fun q5 hF => ?_)
  · refine v_if_ne (pc := 14) 27 dX2_putWords_14 rfl (fun hc => ?_) (fun hc => ?_)
    · replace hF := (okB_if hF).2 hc
      refine v_aload_n (pc := 27) (i := 1) dX2_putWords_27 rfl rfl ?_
      refine v_aload_n (pc := 28) (i := 0) dX2_putWords_28 rfl rfl ?_
      refine s_getI (pc := 29) dX2_putWords_29 flX2_15 rfl hF (fun x7 hF => ?_)
      refine cp_S (pc := 32) (gT G) (as := [si x7]) (st := [sr a1]) (N := mX2_kindWord) (k := 0) (n := 0) (k1 := 0) (n1 := 0) dX2_putWords_32 lkX2_77 caX2_kindWord csX2_kindWord rfl (fun Q1 hq => tX2_kindWord x7 h4 Q1 hq) ⟨by decide, by decide⟩ (Nat.le_of_ble_eq_true rfl) rfl hF (fun x8 hF => ?_)
      show gV G mX2_putWords 5 Q 35 [some (sr (some a0)), some (sr a1), some (si x1)] [sr (some (ga G x8)), sr a1] (0) (0) h4
      refine ch_V (pc := 35) gU (as := [sr (some (ga G x8))]) (st := []) (ci := 0) (N := mX1_part_) (k := 0) (n := 0) (k1 := 0) (n1 := 0) dX2_putWords_35 lkX2_81 caX1_part_ cvX1_part_ rfl (by decide) rfl (fun b Q1 hq => tX1_part_ b x8 h4 Q1 hq) ⟨by decide, by decide⟩ (Nat.le_of_ble_eq_true rfl) rfl hF (fun x9 h10 hF => ?_)
      show gV G mX2_putWords 5 Q 38 [some (sr (some a0)), some (sr a1), some (si x1)] [] (0) (0) h10
      exact v_lle [some (sr (some a0)), some (sr a1), some (si x1)] ⟨rfl, rfl, rfl, trivial⟩ (hj6 h10 (okB_some hF))
    replace hF := (okB_if hF).1 hc
    refine v_aload_n (pc := 17) (i := 0) dX2_putWords_17 rfl rfl ?_
    refine s_getR (pc := 18) dX2_putWords_18 flX2_31 rfl hF (fun x11 hF => ?_)
    refine cp_V (pc := 21) gI (as := []) (st := []) (ci := 0) (N := mX1_size) (k := 0) (n := 0) (k1 := 0) (n1 := 0) dX2_putWords_21 lkX2_76 caX1_size cvX1_size rfl (by decide) rfl (fun b Q1 hq => tX1_size b h4 Q1 hq) ⟨by decide, by decide⟩ (Nat.le_of_ble_eq_true rfl) rfl hF (fun x12 hF => ?_)
    show gV G mX2_putWords 5 Q 24 [some (sr (some a0)), some (sr a1), some (si x1)] [si x12] (0) (0) h4
    refine v_if_ne (pc := 24) 38 dX2_putWords_24 rfl (fun hc => ?_) (fun hc => ?_)
    · replace hF := (okB_if hF).2 hc
      exact v_lle [some (sr (some a0)), some (sr a1), some (si x1)] ⟨rfl, rfl, rfl, trivial⟩ (hj6 h4 (okB_some hF))
    replace hF := (okB_if hF).1 hc
    refine v_aload_n (pc := 27) (i := 1) dX2_putWords_27 rfl rfl ?_
    refine v_aload_n (pc := 28) (i := 0) dX2_putWords_28 rfl rfl ?_
    refine s_getI (pc := 29) dX2_putWords_29 flX2_15 rfl hF (fun x13 hF => ?_)
    refine cp_S (pc := 32) (gT G) (as := [si x13]) (st := [sr a1]) (N := mX2_kindWord) (k := 0) (n := 0) (k1 := 0) (n1 := 0) dX2_putWords_32 lkX2_77 caX2_kindWord csX2_kindWord rfl (fun Q1 hq => tX2_kindWord x13 h4 Q1 hq) ⟨by decide, by decide⟩ (Nat.le_of_ble_eq_true rfl) rfl hF (fun x14 hF => ?_)
    show gV G mX2_putWords 5 Q 35 [some (sr (some a0)), some (sr a1), some (si x1)] [sr (some (ga G x14)), sr a1] (0) (0) h4
    refine ch_V (pc := 35) gU (as := [sr (some (ga G x14))]) (st := []) (ci := 0) (N := mX1_part_) (k := 0) (n := 0) (k1 := 0) (n1 := 0) dX2_putWords_35 lkX2_81 caX1_part_ cvX1_part_ rfl (by decide) rfl (fun b Q1 hq => tX1_part_ b x14 h4 Q1 hq) ⟨by decide, by decide⟩ (Nat.le_of_ble_eq_true rfl) rfl hF (fun x15 h16 hF => ?_)
    show gV G mX2_putWords 5 Q 38 [some (sr (some a0)), some (sr a1), some (si x1)] [] (0) (0) h16
    exact v_lle [some (sr (some a0)), some (sr a1), some (si x1)] ⟨rfl, rfl, rfl, trivial⟩ (hj6 h16 (okB_some hF))
  refine v_aload_n (pc := 38) (i := 0) dX2_putWords_38 rfl rfl ?_
  refine s_getI (pc := 39) dX2_putWords_39 flX2_15 rfl hF (fun x17 hF => ?_)
  refine v_iconst (pc := 42) (v := (3 : Int32)) dX2_putWords_42 rfl ?_
  refine mg (X := fun q18 => gV G mX2_putWords 5 Q 64 [some (sr (some a0)), some (sr a1), some (si x1)] [] (0) (0) q18) hF (fun _ hj19 hF => ?_) (fun q18 hF => ?_)
  · refine v_icmp_ne (pc := 43) 64 dX2_putWords_43 rfl (fun hc => ?_) (fun hc => ?_)
    · replace hF := (okB_if hF).2 hc
      exact v_lle [some (sr (some a0)), some (sr a1), some (si x1)] ⟨rfl, rfl, rfl, trivial⟩ (hj19 q5 (okB_some hF))
    replace hF := (okB_if hF).1 hc
    refine v_aload_n (pc := 46) (i := 1) dX2_putWords_46 rfl rfl ?_
    refine v_aload_n (pc := 47) (i := 0) dX2_putWords_47 rfl rfl ?_
    refine s_getI (pc := 48) dX2_putWords_48 flX2_84 rfl hF (fun x20 hF => ?_)
    refine v_if_eq (pc := 51) 59 dX2_putWords_51 rfl (fun hc => ?_) (fun hc => ?_)
    · replace hF := (okB_if hF).1 hc
      refine v_ldcS (pc := 59) 15 dX2_putWords_59 rfl ?_
      refine ch_V (pc := 61) gU (as := [sr (some (ga G 15))]) (st := []) (ci := 0) (N := mX1_part_) (k := 0) (n := 0) (k1 := 0) (n1 := 0) dX2_putWords_61 lkX2_81 caX1_part_ cvX1_part_ rfl (by decide) rfl (fun b Q1 hq => tX1_part_ b 15 q5 Q1 hq) ⟨by decide, by decide⟩ (Nat.le_of_ble_eq_true rfl) rfl hF (fun x21 h22 hF => ?_)
      show gV G mX2_putWords 5 Q 64 [some (sr (some a0)), some (sr a1), some (si x1)] [] (0) (0) h22
      exact v_lle [some (sr (some a0)), some (sr a1), some (si x1)] ⟨rfl, rfl, rfl, trivial⟩ (hj19 h22 (okB_some hF))
    replace hF := (okB_if hF).2 hc
    refine v_ldcS (pc := 54) 14 dX2_putWords_54 rfl ?_
    refine v_goto (pc := 56) 61 dX2_putWords_56 rfl ?_
    refine ch_V (pc := 61) gU (as := [sr (some (ga G 14))]) (st := []) (ci := 0) (N := mX1_part_) (k := 0) (n := 0) (k1 := 0) (n1 := 0) dX2_putWords_61 lkX2_81 caX1_part_ cvX1_part_ rfl (by decide) rfl (fun b Q1 hq => tX1_part_ b 14 q5 Q1 hq) ⟨by decide, by decide⟩ (Nat.le_of_ble_eq_true rfl) rfl hF (fun x23 h24 hF => ?_)
    show gV G mX2_putWords 5 Q 64 [some (sr (some a0)), some (sr a1), some (si x1)] [] (0) (0) h24
    exact v_lle [some (sr (some a0)), some (sr a1), some (si x1)] ⟨rfl, rfl, rfl, trivial⟩ (hj19 h24 (okB_some hF))
  refine v_aload_n (pc := 64) (i := 1) dX2_putWords_64 rfl rfl ?_
  refine v_aload_n (pc := 65) (i := 0) dX2_putWords_65 rfl rfl ?_
  refine s_getR (pc := 66) dX2_putWords_66 flX2_35 rfl hF (fun x25 hF => ?_)
  refine ch_V (pc := 69) gU (as := [sr x25]) (st := []) (ci := 0) (N := mX1_part) (k := 0) (n := 0) (k1 := 0) (n1 := 0) dX2_putWords_69 lkX2_72 caX1_part cvX1_part rfl (by decide) rfl (fun b Q1 hq => tX1_part b x25 q18 Q1 hq) ⟨by decide, by decide⟩ (Nat.le_of_ble_eq_true rfl) rfl hF (fun x26 h27 hF => ?_)
  show gV G mX2_putWords 5 Q 72 [some (sr (some a0)), some (sr a1), some (si x1)] [] (0) (0) h27
  refine v_iload_n (pc := 72) (i := 2) dX2_putWords_72 rfl rfl ?_
  refine v_iconst (pc := 73) (v := (2 : Int32)) dX2_putWords_73 rfl ?_
  refine v_icmp_ne (pc := 74) 122 dX2_putWords_74 rfl (fun hc => ?_) (fun hc => ?_)
  · replace hF := (okB_if hF).2 hc
    exact v_ret (pc := 122) dX2_putWords_122 rfl (okr hF fun q => q)
  replace hF := (okB_if hF).1 hc
  refine v_aload_n (pc := 77) (i := 0) dX2_putWords_77 rfl rfl ?_
  refine s_getR (pc := 78) dX2_putWords_78 flX2_18 rfl hF (fun x28 hF => ?_)
  refine s_ifnull (pc := 81) 122 dX2_putWords_81 rfl hF (fun hF => ?_) (fun hF => ?_)
  · exact v_ret (pc := 122) dX2_putWords_122 rfl (okr hF fun q => q)
  refine v_aload_n (pc := 84) (i := 1) dX2_putWords_84 rfl rfl ?_
  refine v_aload_n (pc := 85) (i := 0) dX2_putWords_85 rfl rfl ?_
  refine s_getR (pc := 86) dX2_putWords_86 flX2_18 rfl hF (fun x29 hF => ?_)
  refine v_aload_n (pc := 89) (i := 0) dX2_putWords_89 rfl rfl ?_
  refine s_getR (pc := 90) dX2_putWords_90 flX2_18 rfl hF (fun x30 hF => ?_)
  refine v_aload_n (pc := 93) (i := 0) dX2_putWords_93 rfl rfl ?_
  refine cp_V (pc := 94) gI (as := [sr (some a0)]) (st := [sr x29, sr a1]) (ci := 1) (N := mX2_placeOf) (k := 0) (n := 0) (k1 := 0) (n1 := 0) dX2_putWords_94 lkX2_58 caX2_placeOf cvX2_placeOf rfl (by decide) rfl (fun b Q1 hq => tX2_placeOf b (some a0) h27 Q1 hq) ⟨by decide, by decide⟩ (Nat.le_of_ble_eq_true rfl) rfl hF (fun x31 hF => ?_)
  show gV G mX2_putWords 5 Q 97 [some (sr (some a0)), some (sr a1), some (si x1)] [si x31, sr x29, sr a1] (0) (0) h27
  refine cp_V (pc := 97) gI (as := [si x31]) (st := [sr a1]) (ci := 1) (N := mX2_shownUpTo) (k := 0) (n := 0) (k1 := 0) (n1 := 0) dX2_putWords_97 lkX2_91 caX2_shownUpTo cvX2_shownUpTo rfl (by decide) rfl (fun b Q1 hq => tX2_shownUpTo b x31 h27 Q1 hq) ⟨by decide, by decide⟩ (Nat.le_of_ble_eq_true rfl) rfl hF (fun x32 hF => ?_)
  show gV G mX2_putWords 5 Q 100 [some (sr (some a0)), some (sr a1), some (si x1)] [si x32, sr a1] (0) (0) h27
  refine ch_V (pc := 100) gU (as := [si x32]) (st := []) (ci := 0) (N := mX1_part__) (k := 0) (n := 0) (k1 := 0) (n1 := 0) dX2_putWords_100 lkX2_95 caX1_part__ cvX1_part__ rfl (by decide) rfl (fun b Q1 hq => tX1_part__ b x32 h27 Q1 hq) ⟨by decide, by decide⟩ (Nat.le_of_ble_eq_true rfl) rfl hF (fun x33 h34 hF => ?_)
  show gV G mX2_putWords 5 Q 103 [some (sr (some a0)), some (sr a1), some (si x1)] [] (0) (0) h34
  refine v_aload_n (pc := 103) (i := 1) dX2_putWords_103 rfl rfl ?_
  refine v_ldcS (pc := 104) 16 dX2_putWords_104 rfl ?_
  refine ch_V (pc := 106) gU (as := [sr (some (ga G 16))]) (st := []) (ci := 0) (N := mX1_part_) (k := 0) (n := 0) (k1 := 0) (n1 := 0) dX2_putWords_106 lkX2_81 caX1_part_ cvX1_part_ rfl (by decide) rfl (fun b Q1 hq => tX1_part_ b 16 h34 Q1 hq) ⟨by decide, by decide⟩ (Nat.le_of_ble_eq_true rfl) rfl hF (fun x35 h36 hF => ?_)
  show gV G mX2_putWords 5 Q 109 [some (sr (some a0)), some (sr a1), some (si x1)] [] (0) (0) h36
  refine v_aload_n (pc := 109) (i := 1) dX2_putWords_109 rfl rfl ?_
  refine v_aload_n (pc := 110) (i := 0) dX2_putWords_110 rfl rfl ?_
  refine s_getR (pc := 111) dX2_putWords_111 flX2_18 rfl hF (fun x37 hF => ?_)
  refine v_bipush (pc := 114) (v := (10 : Int32)) dX2_putWords_114 rfl ?_
  refine cp_V (pc := 116) gI (as := [si (10 : Int32)]) (st := [sr a1]) (ci := 1) (N := mX2_shownUpTo) (k := 0) (n := 0) (k1 := 0) (n1 := 0) dX2_putWords_116 lkX2_91 caX2_shownUpTo cvX2_shownUpTo rfl (by decide) rfl (fun b Q1 hq => tX2_shownUpTo b (10 : Int32) h36 Q1 hq) ⟨by decide, by decide⟩ (Nat.le_of_ble_eq_true rfl) rfl hF (fun x38 hF => ?_)
  show gV G mX2_putWords 5 Q 119 [some (sr (some a0)), some (sr a1), some (si x1)] [si x38, sr a1] (0) (0) h36
  refine ch_V (pc := 119) gU (as := [si x38]) (st := []) (ci := 0) (N := mX1_part__) (k := 0) (n := 0) (k1 := 0) (n1 := 0) dX2_putWords_119 lkX2_95 caX1_part__ cvX1_part__ rfl (by decide) rfl (fun b Q1 hq => tX1_part__ b x38 h36 Q1 hq) ⟨by decide, by decide⟩ (Nat.le_of_ble_eq_true rfl) rfl hF (fun x39 h40 hF => ?_)
  show gV G mX2_putWords 5 Q 122 [some (sr (some a0)), some (sr a1), some (si x1)] [] (0) (0) h40
  exact v_ret (pc := 122) dX2_putWords_122 rfl (okr hF fun q => q)
/-! BrailleDesk$Queue.<init> -/
theorem lX4_init_22 {G : gG} {Q : hQ} {P : hp → Prop} (c0 : Nat) (hJ : ∀ q : hp, P q → gV G mX4_init 2 Q 52 [none, none, none] [] (0) (0) q) : ∀ (fu : Nat) (a : (Int32 × hp)), okB (itr (fX4_init_B22 c0) fu a) P → gV G mX4_init 2 Q 22 [some (sr (some c0)), none, some (si a.1)] [] (2 * fu) (102 * fu) a.2 :=
  lpn (X := fun (m : Nat) (a : (Int32 × hp)) => gV G mX4_init 2 Q 22 [some (sr (some c0)), none, some (si a.1)] [] (2 * m) (102 * m) a.2) (fun m a P2 hL hE hF => by
    delta fX4_init_B22 at hF
    refine v_room (k' := 2 * m + 2) (n' := 102 * m + 102) (by omega) (by omega) ?_
    refine v_iload_n (pc := 22) (i := 2) dX4_init_22 rfl rfl ?_
    refine v_aload_n (pc := 23) (i := 0) dX4_init_23 rfl rfl ?_
    refine s_getR (pc := 24) dX4_init_24 flX4_11 rfl hF (fun x1 hF => ?_)
    refine s_alen (pc := 27) dX4_init_27 hF (fun x2 hF => ?_)
    refine v_icmp_ge (pc := 28) 52 dX4_init_28 rfl (fun hc => ?_) (fun hc => ?_)
    · replace hF := (okB_if hF).1 hc
      refine v_room (k' := 0) (n' := 0) (by omega) (by omega) ?_
      exact v_lle [none, none, none] trivial (hJ a.2 (hE _ (okB_some hF)))
    replace hF := (okB_if hF).2 hc
    refine v_aload_n (pc := 31) (i := 0) dX4_init_31 rfl rfl ?_
    refine s_getR (pc := 32) dX4_init_32 flX4_11 rfl hF (fun x3 hF => ?_)
    refine v_iload_n (pc := 35) (i := 2) dX4_init_35 rfl rfl ?_
    refine v_new (pc := 36) (ci := 0) (k := 2 * m + 1) (n := 102 * m + 100) dX4_init_36 (by decide) ccX4_9 ins_0 ini_0 ?_
    refine v_dup (pc := 39) dX4_init_39 rfl ?_
    refine v_bipush (pc := 40) (v := (80 : Int32)) dX4_init_40 rfl ?_
    refine ch_I (pc := 42) (as := [si (80 : Int32)]) (st := [sr (some (hN a.2)), si a.1, sr x3]) (N := mX1_init) (k := 2 * m + 0) (n := 102 * m + 0) (k1 := 1) (n1 := 100) dX4_init_42 lkX4_17 caX1_init ciX1_init rfl rfl rfl (fun Q1 hq => tX1_init (hN a.2) (80 : Int32) (wN a.2 (1, 0)) Q1 hq) ⟨by decide, by decide⟩ (Nat.le_of_ble_eq_true rfl) rfl hF (fun x4 h5 hF => ?_)
    refine s_aast23 (pc := 45) dX4_init_45 hF (fun h6 hF => ?_)
    refine v_iinc (pc := 46) (i := 2) (a.1 + (1 : Int32)) [some (sr (some c0)), none, some (si (a.1 + (1 : Int32)))] dX4_init_46 rfl rfl rfl rfl ?_
    refine v_goto (pc := 49) 22 dX4_init_49 rfl ?_
    refine v_room (k' := 2 * m) (n' := 102 * m) (by omega) (by omega) ?_
    exact v_lle [some (sr (some c0)), none, some (si (a.1 + (1 : Int32)))] ⟨rfl, rfl, trivial⟩ (hL (a.1 + (1 : Int32), h6) (okB_some hF)))
theorem tX4_init {G : gG} (a0 : Nat) (a1 : Int32) (h : hp) (Q : hQ) (hF : okB (fX4_init a0 a1 h) (pH gU Q)) : gS G mX4_init 2 45 2344 [sr (some a0), si a1] h Q := by
  delta fX4_init at hF
  refine gS_at [some (sr (some a0)), some (si a1), none] pl_X4 rfl (Nat.le_of_ble_eq_true rfl) rfl ?_
  refine v_aload_n (pc := 0) (i := 0) dX4_init_0 rfl rfl ?_
  refine v_objI (pc := 1) dX4_init_1 lkX4_3 oi_c oi_d (Nat.le_of_ble_eq_true rfl) (by decide) ?_
  refine v_aload_n (pc := 4) (i := 0) dX4_init_4 rfl rfl ?_
  refine v_iload_n (pc := 5) (i := 1) dX4_init_5 rfl rfl ?_
  refine mg (X := fun q1 => gV G mX4_init 2 Q 14 [some (sr (some a0)), none, none] [si q1, sr (some a0)] (45) (2344) h) hF (fun _ hj2 hF => ?_) (fun q1 hF => ?_)
  · refine v_if_ge (pc := 6) 13 dX4_init_6 rfl (fun hc => ?_) (fun hc => ?_)
    · replace hF := (okB_if hF).1 hc
      refine v_iload_n (pc := 13) (i := 1) dX4_init_13 rfl rfl ?_
      exact v_lle [some (sr (some a0)), none, none] ⟨rfl, trivial⟩ (hj2 a1 (okB_some hF))
    replace hF := (okB_if hF).2 hc
    refine v_iconst (pc := 9) (v := (0 : Int32)) dX4_init_9 rfl ?_
    refine v_goto (pc := 10) 14 dX4_init_10 rfl ?_
    exact v_lle [some (sr (some a0)), none, none] ⟨rfl, trivial⟩ (hj2 (0 : Int32) (okB_some hF))
  refine s_newQ (pc := 14) (k := 44) (n := 2244) dX4_init_14 ccX4_9 hF (fun n3 hF => ?_)
  refine s_putR (pc := 17) dX4_init_17 flX4_11 (Or.inr ⟨rfl, rfl, rfl⟩) rfl hF (fun h4 hF => ?_)
  refine v_iconst (pc := 20) (v := (0 : Int32)) dX4_init_20 rfl ?_
  refine v_istore_n (pc := 21) (i := 2) [some (sr (some a0)), none, some (si (0 : Int32))] dX4_init_21 rfl (by decide) rfl rfl ?_
  refine mg (X := fun q5 => gV G mX4_init 2 Q 52 [none, none, none] [] (0) (0) q5) hF (fun _ hj6 hF => v_lle [some (sr (some a0)), none, some (si (0 : Int32))] ⟨rfl, rfl, trivial⟩ (lX4_init_22 a0 hj6 22 ((0 : Int32), h4) hF)) (fun q5 hF => ?_)
  exact v_ret (pc := 52) dX4_init_52 rfl (okr hF fun q => q)
/-! BrailleDesk$Queue.size -/
theorem tX4_size {G : gG} (a0 : Nat) (h : hp) (Q : hQ) (hF : okB (fX4_size a0 h) (pP gI Q h)) : gS G mX4_size 0 0 0 [sr (some a0)] h Q := by
  delta fX4_size at hF
  refine gS_at [some (sr (some a0))] pl_X4 rfl (Nat.le_of_ble_eq_true rfl) rfl ?_
  refine v_aload_n (pc := 0) (i := 0) dX4_size_0 rfl rfl ?_
  refine s_getI (pc := 1) dX4_size_1 flX4_20 rfl hF (fun x1 hF => ?_)
  exact v_iret (pc := 4) dX4_size_4 rfl rfl (okr hF fun q => q)
/-! BrailleDesk$Queue.clear -/
theorem tX4_clear {G : gG} (a0 : Nat) (h : hp) (Q : hQ) (hF : okB (fX4_clear a0 h) (pH gU Q)) : gS G mX4_clear 0 0 0 [sr (some a0)] h Q := by
  delta fX4_clear at hF
  refine gS_at [some (sr (some a0))] pl_X4 rfl (Nat.le_of_ble_eq_true rfl) rfl ?_
  refine v_aload_n (pc := 0) (i := 0) dX4_clear_0 rfl rfl ?_
  refine v_iconst (pc := 1) (v := (0 : Int32)) dX4_clear_1 rfl ?_
  refine s_putI (pc := 2) dX4_clear_2 flX4_20 (Or.inl rfl) rfl hF (fun h1 hF => ?_)
  exact v_ret (pc := 5) dX4_clear_5 rfl (okr hF fun q => q)
/-! BrailleDesk$Queue.put -/
theorem tX4_put {G : gG} (a0 : Nat) (a1 : (Option Nat)) (h : hp) (Q : hQ) (hF : okB (fX4_put a0 a1 h) (pH gU Q)) : gS G mX4_put 1 0 0 [sr (some a0), sr a1] h Q := by
  delta fX4_put at hF
  refine gS_at [some (sr (some a0)), some (sr a1), none] pl_X4 rfl (Nat.le_of_ble_eq_true rfl) rfl ?_
  refine v_aload_n (pc := 0) (i := 0) dX4_put_0 rfl rfl ?_
  refine s_getI (pc := 1) dX4_put_1 flX4_20 rfl hF (fun x1 hF => ?_)
  refine mg (X := fun q2 => gV G mX4_put 1 Q 32 [some (sr (some a0)), some (sr a1), none] [sr q2] (0) (0) h) hF (fun _ hj3 hF => ?_) (fun q2 hF => ?_)
  · refine v_if_lt (pc := 4) 31 dX4_put_4 rfl (fun hc => ?_) (fun hc => ?_)
    · replace hF := (okB_if hF).1 hc
      refine v_null (pc := 31) dX4_put_31 ?_
      exact v_lle [some (sr (some a0)), some (sr a1), none] ⟨rfl, rfl, trivial⟩ (hj3 (none : Option Nat) (okB_some hF))
    replace hF := (okB_if hF).2 hc
    refine v_aload_n (pc := 7) (i := 0) dX4_put_7 rfl rfl ?_
    refine s_getI (pc := 8) dX4_put_8 flX4_20 rfl hF (fun x4 hF => ?_)
    refine v_aload_n (pc := 11) (i := 0) dX4_put_11 rfl rfl ?_
    refine s_getR (pc := 12) dX4_put_12 flX4_11 rfl hF (fun x5 hF => ?_)
    refine s_alen (pc := 15) dX4_put_15 hF (fun x6 hF => ?_)
    refine v_icmp_ge (pc := 16) 31 dX4_put_16 rfl (fun hc => ?_) (fun hc => ?_)
    · replace hF := (okB_if hF).1 hc
      refine v_null (pc := 31) dX4_put_31 ?_
      exact v_lle [some (sr (some a0)), some (sr a1), none] ⟨rfl, rfl, trivial⟩ (hj3 (none : Option Nat) (okB_some hF))
    replace hF := (okB_if hF).2 hc
    refine v_aload_n (pc := 19) (i := 0) dX4_put_19 rfl rfl ?_
    refine s_getR (pc := 20) dX4_put_20 flX4_11 rfl hF (fun x7 hF => ?_)
    refine v_aload_n (pc := 23) (i := 0) dX4_put_23 rfl rfl ?_
    refine s_getI (pc := 24) dX4_put_24 flX4_20 rfl hF (fun x8 hF => ?_)
    refine s_aald23 (pc := 27) dX4_put_27 hF (fun x9 hF => ?_)
    refine v_goto (pc := 28) 32 dX4_put_28 rfl ?_
    exact v_lle [some (sr (some a0)), some (sr a1), none] ⟨rfl, rfl, trivial⟩ (hj3 x9 (okB_some hF))
  refine v_astore_n (pc := 32) (i := 2) [some (sr (some a0)), some (sr a1), some (sr q2)] dX4_put_32 rfl (by decide) rfl rfl ?_
  refine v_aload_n (pc := 33) (i := 2) dX4_put_33 rfl rfl ?_
  refine s_ifnull (pc := 34) 52 dX4_put_34 rfl hF (fun hF => ?_) (fun hF => ?_)
  · exact v_ret (pc := 52) dX4_put_52 rfl (okr hF fun q => q)
  refine v_aload_n (pc := 37) (i := 2) dX4_put_37 rfl rfl ?_
  refine v_aload_n (pc := 38) (i := 1) dX4_put_38 rfl rfl ?_
  refine ch_V (pc := 39) gU (as := [sr a1]) (st := []) (ci := 0) (N := mX1_copy) (k := 0) (n := 0) (k1 := 0) (n1 := 0) dX4_put_39 lkX4_24 caX1_copy cvX1_copy rfl (by decide) rfl (fun b Q1 hq => tX1_copy b a1 h Q1 hq) ⟨by decide, by decide⟩ (Nat.le_of_ble_eq_true rfl) rfl hF (fun x10 h11 hF => ?_)
  show gV G mX4_put 1 Q 42 [some (sr (some a0)), some (sr a1), some (sr q2)] [] (0) (0) h11
  refine v_aload_n (pc := 42) (i := 0) dX4_put_42 rfl rfl ?_
  refine v_dup (pc := 43) dX4_put_43 rfl ?_
  refine s_getI (pc := 44) dX4_put_44 flX4_20 rfl hF (fun x12 hF => ?_)
  refine v_iconst (pc := 47) (v := (1 : Int32)) dX4_put_47 rfl ?_
  refine v_iadd (pc := 48) dX4_put_48 ?_
  refine s_putI (pc := 49) dX4_put_49 flX4_20 (Or.inl rfl) rfl hF (fun h13 hF => ?_)
  exact v_ret (pc := 52) dX4_put_52 rfl (okr hF fun q => q)
