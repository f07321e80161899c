/-! ===== methods: their functions and rows ===== -/
theorem dX11_comeKept_0 : decode cX11_comeKept 0 = .ok (.iconst 0, 1) := by decide +kernel
theorem dX11_comeKept_1 : decode cX11_comeKept 1 = .ok (.istore_n 1, 1) := by decide +kernel
theorem dX11_comeKept_2 : decode cX11_comeKept 2 = .ok (.iload_n 1, 1) := by decide +kernel
theorem dX11_comeKept_3 : decode cX11_comeKept 3 = .ok (.aload_n 0, 1) := by decide +kernel
theorem dX11_comeKept_4 : decode cX11_comeKept 4 = .ok (.getfield 101, 3) := by decide +kernel
theorem dX11_comeKept_7 : decode cX11_comeKept 7 = .ok (.if_icmp .ge 93, 3) := by decide +kernel
theorem dX11_comeKept_10 : decode cX11_comeKept 10 = .ok (.aload_n 0, 1) := by decide +kernel
theorem dX11_comeKept_11 : decode cX11_comeKept 11 = .ok (.getfield 56, 3) := by decide +kernel
theorem dX11_comeKept_14 : decode cX11_comeKept 14 = .ok (.iload_n 1, 1) := by decide +kernel
theorem dX11_comeKept_15 : decode cX11_comeKept 15 = .ok (.iaload, 1) := by decide +kernel
theorem dX11_comeKept_16 : decode cX11_comeKept 16 = .ok (.ifCond .le 78, 3) := by decide +kernel
theorem dX11_comeKept_19 : decode cX11_comeKept 19 = .ok (.aload_n 0, 1) := by decide +kernel
theorem dX11_comeKept_20 : decode cX11_comeKept 20 = .ok (.iload_n 1, 1) := by decide +kernel
theorem dX11_comeKept_21 : decode cX11_comeKept 21 = .ok (.invokevirtual 212, 3) := by decide +kernel
theorem dX11_comeKept_24 : decode cX11_comeKept 24 = .ok (.ifCond .eq 70, 3) := by decide +kernel
theorem dX11_comeKept_27 : decode cX11_comeKept 27 = .ok (.aload_n 0, 1) := by decide +kernel
theorem dX11_comeKept_28 : decode cX11_comeKept 28 = .ok (.iload_n 1, 1) := by decide +kernel
theorem dX11_comeKept_29 : decode cX11_comeKept 29 = .ok (.invokevirtual 224, 3) := by decide +kernel
theorem dX11_comeKept_32 : decode cX11_comeKept 32 = .ok (.ifCond .eq 57, 3) := by decide +kernel
theorem dX11_comeKept_35 : decode cX11_comeKept 35 = .ok (.aload_n 0, 1) := by decide +kernel
theorem dX11_comeKept_36 : decode cX11_comeKept 36 = .ok (.aload_n 0, 1) := by decide +kernel
theorem dX11_comeKept_37 : decode cX11_comeKept 37 = .ok (.getfield 56, 3) := by decide +kernel
theorem dX11_comeKept_40 : decode cX11_comeKept 40 = .ok (.iload_n 1, 1) := by decide +kernel
theorem dX11_comeKept_41 : decode cX11_comeKept 41 = .ok (.iaload, 1) := by decide +kernel
theorem dX11_comeKept_42 : decode cX11_comeKept 42 = .ok (.putfield 143, 3) := by decide +kernel
theorem dX11_comeKept_45 : decode cX11_comeKept 45 = .ok (.aload_n 0, 1) := by decide +kernel
theorem dX11_comeKept_46 : decode cX11_comeKept 46 = .ok (.getfield 59, 3) := by decide +kernel
theorem dX11_comeKept_49 : decode cX11_comeKept 49 = .ok (.bipush 100, 2) := by decide +kernel
theorem dX11_comeKept_51 : decode cX11_comeKept 51 = .ok (.iload_n 1, 1) := by decide +kernel
theorem dX11_comeKept_52 : decode cX11_comeKept 52 = .ok (.imul, 1) := by decide +kernel
theorem dX11_comeKept_53 : decode cX11_comeKept 53 = .ok (.aload_n 0, 1) := by decide +kernel
theorem dX11_comeKept_54 : decode cX11_comeKept 54 = .ok (.getfield 65, 3) := by decide +kernel
theorem dX11_comeKept_57 : decode cX11_comeKept 57 = .ok (.iconst 0, 1) := by decide +kernel
theorem dX11_comeKept_58 : decode cX11_comeKept 58 = .ok (.aload_n 0, 1) := by decide +kernel
theorem dX11_comeKept_59 : decode cX11_comeKept 59 = .ok (.getfield 143, 3) := by decide +kernel
theorem dX11_comeKept_62 : decode cX11_comeKept 62 = .ok (.invokestatic 181, 3) := by decide +kernel
theorem dX11_comeKept_65 : decode cX11_comeKept 65 = .ok (.aload_n 0, 1) := by decide +kernel
theorem dX11_comeKept_66 : decode cX11_comeKept 66 = .ok (.getfield 56, 3) := by decide +kernel
theorem dX11_comeKept_69 : decode cX11_comeKept 69 = .ok (.iload_n 1, 1) := by decide +kernel
theorem dX11_comeKept_70 : decode cX11_comeKept 70 = .ok (.iconst 0, 1) := by decide +kernel
theorem dX11_comeKept_71 : decode cX11_comeKept 71 = .ok (.iastore, 1) := by decide +kernel
theorem dX11_comeKept_72 : decode cX11_comeKept 72 = .ok (.aload_n 0, 1) := by decide +kernel
theorem dX11_comeKept_73 : decode cX11_comeKept 73 = .ok (.getfield 53, 3) := by decide +kernel
theorem dX11_comeKept_76 : decode cX11_comeKept 76 = .ok (.iload_n 1, 1) := by decide +kernel
theorem dX11_comeKept_77 : decode cX11_comeKept 77 = .ok (.aload_n 0, 1) := by decide +kernel
theorem dX11_comeKept_78 : decode cX11_comeKept 78 = .ok (.getfield 206, 3) := by decide +kernel
theorem dX11_comeKept_81 : decode cX11_comeKept 81 = .ok (.iastore, 1) := by decide +kernel
theorem dX11_comeKept_82 : decode cX11_comeKept 82 = .ok (.aload_n 0, 1) := by decide +kernel
theorem dX11_comeKept_83 : decode cX11_comeKept 83 = .ok (.invokevirtual 215, 3) := by decide +kernel
theorem dX11_comeKept_86 : decode cX11_comeKept 86 = .ok (.goto 8, 3) := by decide +kernel
theorem dX11_comeKept_89 : decode cX11_comeKept 89 = .ok (.aload_n 0, 1) := by decide +kernel
theorem dX11_comeKept_90 : decode cX11_comeKept 90 = .ok (.iload_n 1, 1) := by decide +kernel
theorem dX11_comeKept_91 : decode cX11_comeKept 91 = .ok (.invokevirtual 218, 3) := by decide +kernel
theorem dX11_comeKept_94 : decode cX11_comeKept 94 = .ok (.iinc 1 1, 3) := by decide +kernel
theorem dX11_comeKept_97 : decode cX11_comeKept 97 = .ok (.goto (-95), 3) := by decide +kernel
theorem dX11_comeKept_100 : decode cX11_comeKept 100 = .ok (.return_, 1) := by decide +kernel
theorem dX11_tick_0 : decode cX11_tick 0 = .ok (.aload_n 0, 1) := by decide +kernel
theorem dX11_tick_1 : decode cX11_tick 1 = .ok (.iload_n 1, 1) := by decide +kernel
theorem dX11_tick_2 : decode cX11_tick 2 = .ok (.iconst 1, 1) := by decide +kernel
theorem dX11_tick_3 : decode cX11_tick 3 = .ok (.bipush 50, 2) := by decide +kernel
theorem dX11_tick_5 : decode cX11_tick 5 = .ok (.invokestatic 114, 3) := by decide +kernel
theorem dX11_tick_8 : decode cX11_tick 8 = .ok (.ifCond .eq 7, 3) := by decide +kernel
theorem dX11_tick_11 : decode cX11_tick 11 = .ok (.iconst 0, 1) := by decide +kernel
theorem dX11_tick_12 : decode cX11_tick 12 = .ok (.goto 4, 3) := by decide +kernel
theorem dX11_tick_15 : decode cX11_tick 15 = .ok (.iconst 1, 1) := by decide +kernel
theorem dX11_tick_16 : decode cX11_tick 16 = .ok (.putfield 111, 3) := by decide +kernel
theorem dX11_tick_19 : decode cX11_tick 19 = .ok (.iconst 0, 1) := by decide +kernel
theorem dX11_tick_20 : decode cX11_tick 20 = .ok (.istore_n 2, 1) := by decide +kernel
theorem dX11_tick_21 : decode cX11_tick 21 = .ok (.iconst 0, 1) := by decide +kernel
theorem dX11_tick_22 : decode cX11_tick 22 = .ok (.istore_n 3, 1) := by decide +kernel
theorem dX11_tick_23 : decode cX11_tick 23 = .ok (.iload_n 3, 1) := by decide +kernel
theorem dX11_tick_24 : decode cX11_tick 24 = .ok (.iload_n 1, 1) := by decide +kernel
theorem dX11_tick_25 : decode cX11_tick 25 = .ok (.if_icmp .ge 117, 3) := by decide +kernel
theorem dX11_tick_28 : decode cX11_tick 28 = .ok (.aload_n 0, 1) := by decide +kernel
theorem dX11_tick_29 : decode cX11_tick 29 = .ok (.getfield 111, 3) := by decide +kernel
theorem dX11_tick_32 : decode cX11_tick 32 = .ok (.ifCond .ne 110, 3) := by decide +kernel
theorem dX11_tick_35 : decode cX11_tick 35 = .ok (.aload_n 0, 1) := by decide +kernel
theorem dX11_tick_36 : decode cX11_tick 36 = .ok (.dup, 1) := by decide +kernel
theorem dX11_tick_37 : decode cX11_tick 37 = .ok (.getfield 206, 3) := by decide +kernel
theorem dX11_tick_40 : decode cX11_tick 40 = .ok (.iconst 1, 1) := by decide +kernel
theorem dX11_tick_41 : decode cX11_tick 41 = .ok (.iadd, 1) := by decide +kernel
theorem dX11_tick_42 : decode cX11_tick 42 = .ok (.putfield 206, 3) := by decide +kernel
theorem dX11_tick_45 : decode cX11_tick 45 = .ok (.aload_n 0, 1) := by decide +kernel
theorem dX11_tick_46 : decode cX11_tick 46 = .ok (.invokevirtual 412, 3) := by decide +kernel
theorem dX11_tick_49 : decode cX11_tick 49 = .ok (.aload_n 0, 1) := by decide +kernel
theorem dX11_tick_50 : decode cX11_tick 50 = .ok (.getfield 108, 3) := by decide +kernel
theorem dX11_tick_53 : decode cX11_tick 53 = .ok (.iconst (-1), 1) := by decide +kernel
theorem dX11_tick_54 : decode cX11_tick 54 = .ok (.if_icmp .ne 7, 3) := by decide +kernel
theorem dX11_tick_57 : decode cX11_tick 57 = .ok (.aload_n 0, 1) := by decide +kernel
theorem dX11_tick_58 : decode cX11_tick 58 = .ok (.invokevirtual 415, 3) := by decide +kernel
theorem dX11_tick_61 : decode cX11_tick 61 = .ok (.aload_n 0, 1) := by decide +kernel
theorem dX11_tick_62 : decode cX11_tick 62 = .ok (.getfield 108, 3) := by decide +kernel
theorem dX11_tick_65 : decode cX11_tick 65 = .ok (.iconst (-1), 1) := by decide +kernel
theorem dX11_tick_66 : decode cX11_tick 66 = .ok (.if_icmp .eq 70, 3) := by decide +kernel
theorem dX11_tick_69 : decode cX11_tick 69 = .ok (.aload_n 0, 1) := by decide +kernel
theorem dX11_tick_70 : decode cX11_tick 70 = .ok (.getfield 86, 3) := by decide +kernel
theorem dX11_tick_73 : decode cX11_tick 73 = .ok (.aload_n 0, 1) := by decide +kernel
theorem dX11_tick_74 : decode cX11_tick 74 = .ok (.getfield 418, 3) := by decide +kernel
theorem dX11_tick_77 : decode cX11_tick 77 = .ok (.bipush 100, 2) := by decide +kernel
theorem dX11_tick_79 : decode cX11_tick 79 = .ok (.irem, 1) := by decide +kernel
theorem dX11_tick_80 : decode cX11_tick 80 = .ok (.aload_n 0, 1) := by decide +kernel
theorem dX11_tick_81 : decode cX11_tick 81 = .ok (.getfield 83, 3) := by decide +kernel
theorem dX11_tick_84 : decode cX11_tick 84 = .ok (.aload_n 0, 1) := by decide +kernel
theorem dX11_tick_85 : decode cX11_tick 85 = .ok (.getfield 197, 3) := by decide +kernel
theorem dX11_tick_88 : decode cX11_tick 88 = .ok (.iaload, 1) := by decide +kernel
theorem dX11_tick_89 : decode cX11_tick 89 = .ok (.iastore, 1) := by decide +kernel
theorem dX11_tick_90 : decode cX11_tick 90 = .ok (.aload_n 0, 1) := by decide +kernel
theorem dX11_tick_91 : decode cX11_tick 91 = .ok (.dup, 1) := by decide +kernel
theorem dX11_tick_92 : decode cX11_tick 92 = .ok (.getfield 418, 3) := by decide +kernel
theorem dX11_tick_95 : decode cX11_tick 95 = .ok (.iconst 1, 1) := by decide +kernel
theorem dX11_tick_96 : decode cX11_tick 96 = .ok (.iadd, 1) := by decide +kernel
theorem dX11_tick_97 : decode cX11_tick 97 = .ok (.putfield 418, 3) := by decide +kernel
theorem dX11_tick_100 : decode cX11_tick 100 = .ok (.aload_n 0, 1) := by decide +kernel
theorem dX11_tick_101 : decode cX11_tick 101 = .ok (.dup, 1) := by decide +kernel
theorem dX11_tick_102 : decode cX11_tick 102 = .ok (.getfield 197, 3) := by decide +kernel
theorem dX11_tick_105 : decode cX11_tick 105 = .ok (.iconst 1, 1) := by decide +kernel
theorem dX11_tick_106 : decode cX11_tick 106 = .ok (.iadd, 1) := by decide +kernel
theorem dX11_tick_107 : decode cX11_tick 107 = .ok (.putfield 197, 3) := by decide +kernel
theorem dX11_tick_110 : decode cX11_tick 110 = .ok (.iinc 2 1, 3) := by decide +kernel
theorem dX11_tick_113 : decode cX11_tick 113 = .ok (.aload_n 0, 1) := by decide +kernel
theorem dX11_tick_114 : decode cX11_tick 114 = .ok (.aload_n 0, 1) := by decide +kernel
theorem dX11_tick_115 : decode cX11_tick 115 = .ok (.getfield 197, 3) := by decide +kernel
theorem dX11_tick_118 : decode cX11_tick 118 = .ok (.aload_n 0, 1) := by decide +kernel
theorem dX11_tick_119 : decode cX11_tick 119 = .ok (.getfield 200, 3) := by decide +kernel
theorem dX11_tick_122 : decode cX11_tick 122 = .ok (.if_icmp .ne 7, 3) := by decide +kernel
theorem dX11_tick_125 : decode cX11_tick 125 = .ok (.iconst (-1), 1) := by decide +kernel
theorem dX11_tick_126 : decode cX11_tick 126 = .ok (.goto 7, 3) := by decide +kernel
theorem dX11_tick_129 : decode cX11_tick 129 = .ok (.aload_n 0, 1) := by decide +kernel
theorem dX11_tick_130 : decode cX11_tick 130 = .ok (.getfield 108, 3) := by decide +kernel
theorem dX11_tick_133 : decode cX11_tick 133 = .ok (.putfield 108, 3) := by decide +kernel
theorem dX11_tick_136 : decode cX11_tick 136 = .ok (.iinc 3 1, 3) := by decide +kernel
theorem dX11_tick_139 : decode cX11_tick 139 = .ok (.goto (-116), 3) := by decide +kernel
theorem dX11_tick_142 : decode cX11_tick 142 = .ok (.iload_n 2, 1) := by decide +kernel
theorem dX11_tick_143 : decode cX11_tick 143 = .ok (.ireturn, 1) := by decide +kernel
theorem dX11_time_0 : decode cX11_time 0 = .ok (.aload_n 0, 1) := by decide +kernel
theorem dX11_time_1 : decode cX11_time 1 = .ok (.iconst 0, 1) := by decide +kernel
theorem dX11_time_2 : decode cX11_time 2 = .ok (.putfield 111, 3) := by decide +kernel
theorem dX11_time_5 : decode cX11_time 5 = .ok (.aload_n 0, 1) := by decide +kernel
theorem dX11_time_6 : decode cX11_time 6 = .ok (.getfield 206, 3) := by decide +kernel
theorem dX11_time_9 : decode cX11_time 9 = .ok (.ireturn, 1) := by decide +kernel
theorem dX11_speaking_0 : decode cX11_speaking 0 = .ok (.aload_n 0, 1) := by decide +kernel
theorem dX11_speaking_1 : decode cX11_speaking 1 = .ok (.iconst 0, 1) := by decide +kernel
theorem dX11_speaking_2 : decode cX11_speaking 2 = .ok (.putfield 111, 3) := by decide +kernel
theorem dX11_speaking_5 : decode cX11_speaking 5 = .ok (.aload_n 0, 1) := by decide +kernel
theorem dX11_speaking_6 : decode cX11_speaking 6 = .ok (.getfield 108, 3) := by decide +kernel
theorem dX11_speaking_9 : decode cX11_speaking 9 = .ok (.ireturn, 1) := by decide +kernel
theorem dX11_left_0 : decode cX11_left 0 = .ok (.aload_n 0, 1) := by decide +kernel
theorem dX11_left_1 : decode cX11_left 1 = .ok (.iconst 0, 1) := by decide +kernel
theorem dX11_left_2 : decode cX11_left 2 = .ok (.putfield 111, 3) := by decide +kernel
theorem dX11_left_5 : decode cX11_left 5 = .ok (.aload_n 0, 1) := by decide +kernel
theorem dX11_left_6 : decode cX11_left 6 = .ok (.getfield 108, 3) := by decide +kernel
theorem dX11_left_9 : decode cX11_left 9 = .ok (.iconst (-1), 1) := by decide +kernel
theorem dX11_left_10 : decode cX11_left 10 = .ok (.if_icmp .ne 7, 3) := by decide +kernel
theorem dX11_left_13 : decode cX11_left 13 = .ok (.iconst 0, 1) := by decide +kernel
theorem dX11_left_14 : decode cX11_left 14 = .ok (.goto 12, 3) := by decide +kernel
theorem dX11_left_17 : decode cX11_left 17 = .ok (.aload_n 0, 1) := by decide +kernel
theorem dX11_left_18 : decode cX11_left 18 = .ok (.getfield 200, 3) := by decide +kernel
theorem dX11_left_21 : decode cX11_left 21 = .ok (.aload_n 0, 1) := by decide +kernel
theorem dX11_left_22 : decode cX11_left 22 = .ok (.getfield 197, 3) := by decide +kernel
theorem dX11_left_25 : decode cX11_left 25 = .ok (.isub, 1) := by decide +kernel
theorem dX11_left_26 : decode cX11_left 26 = .ok (.ireturn, 1) := by decide +kernel
theorem dX11_waiting_0 : decode cX11_waiting 0 = .ok (.aload_n 0, 1) := by decide +kernel
theorem dX11_waiting_1 : decode cX11_waiting 1 = .ok (.iload_n 1, 1) := by decide +kernel
theorem dX11_waiting_2 : decode cX11_waiting 2 = .ok (.iconst 0, 1) := by decide +kernel
theorem dX11_waiting_3 : decode cX11_waiting 3 = .ok (.iconst 2, 1) := by decide +kernel
theorem dX11_waiting_4 : decode cX11_waiting 4 = .ok (.invokestatic 114, 3) := by decide +kernel
theorem dX11_waiting_7 : decode cX11_waiting 7 = .ok (.ifCond .eq 7, 3) := by decide +kernel
theorem dX11_waiting_10 : decode cX11_waiting 10 = .ok (.iconst 0, 1) := by decide +kernel
theorem dX11_waiting_11 : decode cX11_waiting 11 = .ok (.goto 4, 3) := by decide +kernel
theorem dX11_waiting_14 : decode cX11_waiting 14 = .ok (.iconst 1, 1) := by decide +kernel
theorem dX11_waiting_15 : decode cX11_waiting 15 = .ok (.putfield 111, 3) := by decide +kernel
theorem dX11_waiting_18 : decode cX11_waiting 18 = .ok (.aload_n 0, 1) := by decide +kernel
theorem dX11_waiting_19 : decode cX11_waiting 19 = .ok (.getfield 111, 3) := by decide +kernel
theorem dX11_waiting_22 : decode cX11_waiting 22 = .ok (.ifCond .le 7, 3) := by decide +kernel
theorem dX11_waiting_25 : decode cX11_waiting 25 = .ok (.iconst 0, 1) := by decide +kernel
theorem dX11_waiting_26 : decode cX11_waiting 26 = .ok (.goto 38, 3) := by decide +kernel
theorem dX11_waiting_29 : decode cX11_waiting 29 = .ok (.iload_n 1, 1) := by decide +kernel
theorem dX11_waiting_30 : decode cX11_waiting 30 = .ok (.ifCond .ne 10, 3) := by decide +kernel
theorem dX11_waiting_33 : decode cX11_waiting 33 = .ok (.aload_n 0, 1) := by decide +kernel
theorem dX11_waiting_34 : decode cX11_waiting 34 = .ok (.getfield 178, 3) := by decide +kernel
theorem dX11_waiting_37 : decode cX11_waiting 37 = .ok (.goto 27, 3) := by decide +kernel
theorem dX11_waiting_40 : decode cX11_waiting 40 = .ok (.iload_n 1, 1) := by decide +kernel
theorem dX11_waiting_41 : decode cX11_waiting 41 = .ok (.iconst 2, 1) := by decide +kernel
theorem dX11_waiting_42 : decode cX11_waiting 42 = .ok (.if_icmp .ne 10, 3) := by decide +kernel
theorem dX11_waiting_45 : decode cX11_waiting 45 = .ok (.aload_n 0, 1) := by decide +kernel
theorem dX11_waiting_46 : decode cX11_waiting 46 = .ok (.getfield 191, 3) := by decide +kernel
theorem dX11_waiting_49 : decode cX11_waiting 49 = .ok (.goto 15, 3) := by decide +kernel
theorem dX11_waiting_52 : decode cX11_waiting 52 = .ok (.aload_n 0, 1) := by decide +kernel
theorem dX11_waiting_53 : decode cX11_waiting 53 = .ok (.getfield 194, 3) := by decide +kernel
theorem dX11_waiting_56 : decode cX11_waiting 56 = .ok (.ifCond .le 7, 3) := by decide +kernel
theorem dX11_waiting_59 : decode cX11_waiting 59 = .ok (.iconst 1, 1) := by decide +kernel
theorem dX11_waiting_60 : decode cX11_waiting 60 = .ok (.goto 4, 3) := by decide +kernel
theorem dX11_waiting_63 : decode cX11_waiting 63 = .ok (.iconst 0, 1) := by decide +kernel
theorem dX11_waiting_64 : decode cX11_waiting 64 = .ok (.ireturn, 1) := by decide +kernel
theorem dX11_heard_0 : decode cX11_heard 0 = .ok (.aload_n 0, 1) := by decide +kernel
theorem dX11_heard_1 : decode cX11_heard 1 = .ok (.iconst 0, 1) := by decide +kernel
theorem dX11_heard_2 : decode cX11_heard 2 = .ok (.putfield 111, 3) := by decide +kernel
theorem dX11_heard_5 : decode cX11_heard 5 = .ok (.aload_n 0, 1) := by decide +kernel
theorem dX11_heard_6 : decode cX11_heard 6 = .ok (.getfield 418, 3) := by decide +kernel
theorem dX11_heard_9 : decode cX11_heard 9 = .ok (.ireturn, 1) := by decide +kernel
theorem dX11_heardAt_0 : decode cX11_heardAt 0 = .ok (.aload_n 0, 1) := by decide +kernel
theorem dX11_heardAt_1 : decode cX11_heardAt 1 = .ok (.iload_n 1, 1) := by decide +kernel
theorem dX11_heardAt_2 : decode cX11_heardAt 2 = .ok (.iconst 0, 1) := by decide +kernel
theorem dX11_heardAt_3 : decode cX11_heardAt 3 = .ok (.bipush 99, 2) := by decide +kernel
theorem dX11_heardAt_5 : decode cX11_heardAt 5 = .ok (.invokestatic 114, 3) := by decide +kernel
theorem dX11_heardAt_8 : decode cX11_heardAt 8 = .ok (.ifCond .eq 15, 3) := by decide +kernel
theorem dX11_heardAt_11 : decode cX11_heardAt 11 = .ok (.iload_n 1, 1) := by decide +kernel
theorem dX11_heardAt_12 : decode cX11_heardAt 12 = .ok (.aload_n 0, 1) := by decide +kernel
theorem dX11_heardAt_13 : decode cX11_heardAt 13 = .ok (.getfield 418, 3) := by decide +kernel
theorem dX11_heardAt_16 : decode cX11_heardAt 16 = .ok (.if_icmp .ge 7, 3) := by decide +kernel
theorem dX11_heardAt_19 : decode cX11_heardAt 19 = .ok (.iconst 0, 1) := by decide +kernel
theorem dX11_heardAt_20 : decode cX11_heardAt 20 = .ok (.goto 4, 3) := by decide +kernel
theorem dX11_heardAt_23 : decode cX11_heardAt 23 = .ok (.iconst 1, 1) := by decide +kernel
theorem dX11_heardAt_24 : decode cX11_heardAt 24 = .ok (.putfield 111, 3) := by decide +kernel
theorem dX11_heardAt_27 : decode cX11_heardAt 27 = .ok (.aload_n 0, 1) := by decide +kernel
theorem dX11_heardAt_28 : decode cX11_heardAt 28 = .ok (.getfield 111, 3) := by decide +kernel
theorem dX11_heardAt_31 : decode cX11_heardAt 31 = .ok (.ifCond .ne 22, 3) := by decide +kernel
theorem dX11_heardAt_34 : decode cX11_heardAt 34 = .ok (.aload_n 0, 1) := by decide +kernel
theorem dX11_heardAt_35 : decode cX11_heardAt 35 = .ok (.getfield 86, 3) := by decide +kernel
theorem dX11_heardAt_38 : decode cX11_heardAt 38 = .ok (.aload_n 0, 1) := by decide +kernel
theorem dX11_heardAt_39 : decode cX11_heardAt 39 = .ok (.getfield 418, 3) := by decide +kernel
theorem dX11_heardAt_42 : decode cX11_heardAt 42 = .ok (.iconst 1, 1) := by decide +kernel
theorem dX11_heardAt_43 : decode cX11_heardAt 43 = .ok (.isub, 1) := by decide +kernel
theorem dX11_heardAt_44 : decode cX11_heardAt 44 = .ok (.iload_n 1, 1) := by decide +kernel
theorem dX11_heardAt_45 : decode cX11_heardAt 45 = .ok (.isub, 1) := by decide +kernel
theorem dX11_heardAt_46 : decode cX11_heardAt 46 = .ok (.bipush 100, 2) := by decide +kernel
theorem dX11_heardAt_48 : decode cX11_heardAt 48 = .ok (.irem, 1) := by decide +kernel
theorem dX11_heardAt_49 : decode cX11_heardAt 49 = .ok (.iaload, 1) := by decide +kernel
theorem dX11_heardAt_50 : decode cX11_heardAt 50 = .ok (.goto 4, 3) := by decide +kernel
theorem dX11_heardAt_53 : decode cX11_heardAt 53 = .ok (.iconst 0, 1) := by decide +kernel
theorem dX11_heardAt_54 : decode cX11_heardAt 54 = .ok (.ireturn, 1) := by decide +kernel
theorem dX11_dropped_0 : decode cX11_dropped 0 = .ok (.aload_n 0, 1) := by decide +kernel
theorem dX11_dropped_1 : decode cX11_dropped 1 = .ok (.iconst 0, 1) := by decide +kernel
theorem dX11_dropped_2 : decode cX11_dropped 2 = .ok (.putfield 111, 3) := by decide +kernel
theorem dX11_dropped_5 : decode cX11_dropped 5 = .ok (.aload_n 0, 1) := by decide +kernel
theorem dX11_dropped_6 : decode cX11_dropped 6 = .ok (.getfield 188, 3) := by decide +kernel
theorem dX11_dropped_9 : decode cX11_dropped 9 = .ok (.ireturn, 1) := by decide +kernel
theorem dX11_swallowed_0 : decode cX11_swallowed 0 = .ok (.aload_n 0, 1) := by decide +kernel
theorem dX11_swallowed_1 : decode cX11_swallowed 1 = .ok (.iconst 0, 1) := by decide +kernel
theorem dX11_swallowed_2 : decode cX11_swallowed 2 = .ok (.putfield 111, 3) := by decide +kernel
theorem dX11_swallowed_5 : decode cX11_swallowed 5 = .ok (.aload_n 0, 1) := by decide +kernel
theorem dX11_swallowed_6 : decode cX11_swallowed 6 = .ok (.getfield 221, 3) := by decide +kernel
theorem dX11_swallowed_9 : decode cX11_swallowed 9 = .ok (.ireturn, 1) := by decide +kernel
abbrev mX11_comeKept : gM := (yX11_comeKept, cX11_comeKept, 2, (Option.none : Option FieldType), [])
theorem caX11_comeKept : cal mX11_comeKept 0 := ⟨xw 1982 (by decide +kernel) rfl, xw 102 (by decide +kernel) rfl, by decide, by decide +kernel⟩
theorem cvX11_comeKept : calV mX11_comeKept := ⟨xw 1981 (by decide +kernel) rfl, xw 83 (by decide +kernel) rfl⟩
abbrev mX11_tick : gM := (yX11_tick, cX11_tick, 4, (Option.some FieldType.int), [])
theorem caX11_tick : cal mX11_tick 1 := ⟨xw 1978 (by decide +kernel) rfl, xw 102 (by decide +kernel) rfl, by decide, by decide +kernel⟩
theorem cvX11_tick : calV mX11_tick := ⟨xw 1976 (by decide +kernel) rfl, xw 1977 (by decide +kernel) rfl⟩
abbrev mX11_time : gM := (yX11_time, cX11_time, 1, (Option.some FieldType.int), [])
theorem caX11_time : cal mX11_time 0 := ⟨xw 1994 (by decide +kernel) rfl, xw 102 (by decide +kernel) rfl, by decide, by decide +kernel⟩
theorem cvX11_time : calV mX11_time := ⟨xw 1992 (by decide +kernel) rfl, xw 1993 (by decide +kernel) rfl⟩
abbrev mX11_speaking : gM := (yX11_speaking, cX11_speaking, 1, (Option.some FieldType.int), [])
theorem caX11_speaking : cal mX11_speaking 0 := ⟨xw 1998 (by decide +kernel) rfl, xw 102 (by decide +kernel) rfl, by decide, by decide +kernel⟩
theorem cvX11_speaking : calV mX11_speaking := ⟨xw 1996 (by decide +kernel) rfl, xw 1997 (by decide +kernel) rfl⟩
abbrev mX11_left : gM := (yX11_left, cX11_left, 1, (Option.some FieldType.int), [])
theorem caX11_left : cal mX11_left 0 := ⟨xw 2002 (by decide +kernel) rfl, xw 102 (by decide +kernel) rfl, by decide, by decide +kernel⟩
theorem cvX11_left : calV mX11_left := ⟨xw 2000 (by decide +kernel) rfl, xw 2001 (by decide +kernel) rfl⟩
abbrev mX11_waiting : gM := (yX11_waiting, cX11_waiting, 2, (Option.some FieldType.int), [])
theorem caX11_waiting : cal mX11_waiting 1 := ⟨xw 2006 (by decide +kernel) rfl, xw 102 (by decide +kernel) rfl, by decide, by decide +kernel⟩
theorem cvX11_waiting : calV mX11_waiting := ⟨xw 2004 (by decide +kernel) rfl, xw 2005 (by decide +kernel) rfl⟩
abbrev mX11_heard : gM := (yX11_heard, cX11_heard, 1, (Option.some FieldType.int), [])
theorem caX11_heard : cal mX11_heard 0 := ⟨xw 2010 (by decide +kernel) rfl, xw 102 (by decide +kernel) rfl, by decide, by decide +kernel⟩
theorem cvX11_heard : calV mX11_heard := ⟨xw 2008 (by decide +kernel) rfl, xw 2009 (by decide +kernel) rfl⟩
abbrev mX11_heardAt : gM := (yX11_heardAt, cX11_heardAt, 2, (Option.some FieldType.int), [])
theorem caX11_heardAt : cal mX11_heardAt 1 := ⟨xw 2014 (by decide +kernel) rfl, xw 102 (by decide +kernel) rfl, by decide, by decide +kernel⟩
theorem cvX11_heardAt : calV mX11_heardAt := ⟨xw 2012 (by decide +kernel) rfl, xw 2013 (by decide +kernel) rfl⟩
abbrev mX11_dropped : gM := (yX11_dropped, cX11_dropped, 1, (Option.some FieldType.int), [])
theorem caX11_dropped : cal mX11_dropped 0 := ⟨xw 2018 (by decide +kernel) rfl, xw 102 (by decide +kernel) rfl, by decide, by decide +kernel⟩
theorem cvX11_dropped : calV mX11_dropped := ⟨xw 2016 (by decide +kernel) rfl, xw 2017 (by decide +kernel) rfl⟩
abbrev mX11_swallowed : gM := (yX11_swallowed, cX11_swallowed, 1, (Option.some FieldType.int), [])
theorem caX11_swallowed : cal mX11_swallowed 0 := ⟨xw 2022 (by decide +kernel) rfl, xw 102 (by decide +kernel) rfl, by decide, by decide +kernel⟩
theorem cvX11_swallowed : calV mX11_swallowed := ⟨xw 2020 (by decide +kernel) rfl, xw 2021 (by decide +kernel) rfl⟩
theorem lkX11_412 : Cond.methodLink RX11 412 yX11_comeKept ∈ XW := xw 1979 (by decide +kernel) rfl
theorem lkX11_415 : Cond.methodLink RX11 415 yX11_beginSpeech ∈ XW := xw 1983 (by decide +kernel) rfl
theorem flX11_418 : fl RX11 418 10 43 := ⟨by decide, by decide, xw 1440 (by decide +kernel) rfl⟩
/-! BrailleDeskModel.comeKept -/
theorem lX11_comeKept_2 {G : gG} {Q : hQ} {P : mm → Prop} {k n : Nat} (a0 : Nat) (h : hp) (hJ : ∀ q : mm, P q → gV G mX11_comeKept 3 Q 100 [none, none] [] (k) (n) (jn a0 h q)) : ∀ (fu : Nat) (a : (Int32 × mm)), okB (itr (fX11_comeKept_B2) fu a) P → gV G mX11_comeKept 3 Q 2 [some (sr (some a0)), some (si a.1)] [] (k) (n) (jn a0 h a.2) :=
  lpg (X := fun (a : (Int32 × mm)) => gV G mX11_comeKept 3 Q 2 [some (sr (some a0)), some (si a.1)] [] (k) (n) (jn a0 h a.2)) (fun a P2 hL hE hF => by
    delta fX11_comeKept_B2 at hF
    refine v_iload_n (pc := 2) (i := 1) dX11_comeKept_2 rfl rfl ?_
    refine v_aload_n (pc := 3) (i := 0) dX11_comeKept_3 rfl rfl ?_
    refine m_getI (pc := 4) (j := 0) dX11_comeKept_4 flX11_101 rfl rfl ?_
    refine v_icmp_ge (pc := 7) 100 dX11_comeKept_7 rfl (fun hc => ?_) (fun hc => ?_)
    · replace hF := (okB_if hF).1 hc
      exact v_lle [none, none] trivial (hJ a.2 (hE _ (okB_some hF)))
    replace hF := (okB_if hF).2 hc
    refine v_aload_n (pc := 10) (i := 0) dX11_comeKept_10 rfl rfl ?_
    refine m_getA (pc := 11) (j := 16) dX11_comeKept_11 flX11_56 rfl (by decide) ?_
    refine v_iload_n (pc := 14) (i := 1) dX11_comeKept_14 rfl rfl ?_
    refine m_iald (pc := 15) (j := 16) dX11_comeKept_15 hF (fun x1 hF => ?_)
    refine v_if_le (pc := 16) 94 dX11_comeKept_16 rfl (fun hc => ?_) (fun hc => ?_)
    · replace hF := (okB_if hF).1 hc
      refine v_iinc (pc := 94) (i := 1) (a.1 + (1 : Int32)) [some (sr (some a0)), some (si (a.1 + (1 : Int32)))] dX11_comeKept_94 rfl rfl rfl rfl ?_
      refine v_goto (pc := 97) 2 dX11_comeKept_97 rfl ?_
      exact v_lle [some (sr (some a0)), some (si (a.1 + (1 : Int32)))] ⟨rfl, rfl, trivial⟩ (hL (a.1 + (1 : Int32), a.2) (okB_some hF))
    replace hF := (okB_if hF).2 hc
    refine v_aload_n (pc := 19) (i := 0) dX11_comeKept_19 rfl rfl ?_
    refine v_iload_n (pc := 20) (i := 1) dX11_comeKept_20 rfl rfl ?_
    refine cpM_V (pc := 21) gI (as := [si a.1]) (st := []) (N := mX11_canNews) (k := k) (n := n) (k1 := 0) (n1 := 0) dX11_comeKept_21 lkX11_212 caX11_canNews cvX11_canNews rfl rfl (fun Q1 hq => tX11_canNews a0 h a.1 a.2 Q1 hq) ⟨by decide, by decide⟩ (Nat.le_of_ble_eq_true rfl) rfl hF (fun x2 hF => ?_)
    show gV G mX11_comeKept 3 Q 24 [some (sr (some a0)), some (si a.1)] [si x2] (k) (n) (jn a0 h a.2)
    refine v_if_eq (pc := 24) 94 dX11_comeKept_24 rfl (fun hc => ?_) (fun hc => ?_)
    · replace hF := (okB_if hF).1 hc
      refine v_iinc (pc := 94) (i := 1) (a.1 + (1 : Int32)) [some (sr (some a0)), some (si (a.1 + (1 : Int32)))] dX11_comeKept_94 rfl rfl rfl rfl ?_
      refine v_goto (pc := 97) 2 dX11_comeKept_97 rfl ?_
      exact v_lle [some (sr (some a0)), some (si (a.1 + (1 : Int32)))] ⟨rfl, rfl, trivial⟩ (hL (a.1 + (1 : Int32), a.2) (okB_some hF))
    replace hF := (okB_if hF).2 hc
    refine v_aload_n (pc := 27) (i := 0) dX11_comeKept_27 rfl rfl ?_
    refine v_iload_n (pc := 28) (i := 1) dX11_comeKept_28 rfl rfl ?_
    refine cpM_V (pc := 29) gI (as := [si a.1]) (st := []) (N := mX11_shows) (k := k) (n := n) (k1 := 0) (n1 := 0) dX11_comeKept_29 lkX11_224 caX11_shows cvX11_shows rfl rfl (fun Q1 hq => tX11_shows a0 h a.1 a.2 Q1 hq) ⟨by decide, by decide⟩ (Nat.le_of_ble_eq_true rfl) rfl hF (fun x3 hF => ?_)
    show gV G mX11_comeKept 3 Q 32 [some (sr (some a0)), some (si a.1)] [si x3] (k) (n) (jn a0 h a.2)
    refine v_if_eq (pc := 32) 89 dX11_comeKept_32 rfl (fun hc => ?_) (fun hc => ?_)
    · replace hF := (okB_if hF).1 hc
      refine v_aload_n (pc := 89) (i := 0) dX11_comeKept_89 rfl rfl ?_
      refine v_iload_n (pc := 90) (i := 1) dX11_comeKept_90 rfl rfl ?_
      refine chM_V (pc := 91) gU (as := [si a.1]) (st := []) (N := mX11_swallow) (k := k) (n := n) (k1 := 0) (n1 := 0) dX11_comeKept_91 lkX11_218 caX11_swallow cvX11_swallow rfl rfl (fun Q1 hq => tX11_swallow a0 h a.1 a.2 Q1 hq) ⟨by decide, by decide⟩ (Nat.le_of_ble_eq_true rfl) rfl hF (fun x4 m5 hF => ?_)
      show gV G mX11_comeKept 3 Q 94 [some (sr (some a0)), some (si a.1)] [] (k) (n) (jn a0 h m5)
      refine v_iinc (pc := 94) (i := 1) (a.1 + (1 : Int32)) [some (sr (some a0)), some (si (a.1 + (1 : Int32)))] dX11_comeKept_94 rfl rfl rfl rfl ?_
      refine v_goto (pc := 97) 2 dX11_comeKept_97 rfl ?_
      exact v_lle [some (sr (some a0)), some (si (a.1 + (1 : Int32)))] ⟨rfl, rfl, trivial⟩ (hL (a.1 + (1 : Int32), m5) (okB_some hF))
    replace hF := (okB_if hF).2 hc
    refine v_aload_n (pc := 35) (i := 0) dX11_comeKept_35 rfl rfl ?_
    refine v_aload_n (pc := 36) (i := 0) dX11_comeKept_36 rfl rfl ?_
    refine m_getA (pc := 37) (j := 16) dX11_comeKept_37 flX11_56 rfl (by decide) ?_
    refine v_iload_n (pc := 40) (i := 1) dX11_comeKept_40 rfl rfl ?_
    refine m_iald (pc := 41) (j := 16) dX11_comeKept_41 hF (fun x6 hF => ?_)
    refine m_putI (pc := 42) (j := 29) dX11_comeKept_42 flX11_143 rfl rfl rfl hF (fun m7 hF => ?_)
    refine v_aload_n (pc := 45) (i := 0) dX11_comeKept_45 rfl rfl ?_
    refine m_getA (pc := 46) (j := 17) dX11_comeKept_46 flX11_59 rfl (by decide) ?_
    refine v_bipush (pc := 49) (v := (100 : Int32)) dX11_comeKept_49 rfl ?_
    refine v_iload_n (pc := 51) (i := 1) dX11_comeKept_51 rfl rfl ?_
    refine v_imul (pc := 52) dX11_comeKept_52 ?_
    refine v_aload_n (pc := 53) (i := 0) dX11_comeKept_53 rfl rfl ?_
    refine m_getA (pc := 54) (j := 28) dX11_comeKept_54 flX11_65 rfl (by decide) ?_
    refine v_iconst (pc := 57) (v := (0 : Int32)) dX11_comeKept_57 rfl ?_
    refine v_aload_n (pc := 58) (i := 0) dX11_comeKept_58 rfl rfl ?_
    refine m_getI (pc := 59) (j := 29) dX11_comeKept_59 flX11_143 rfl rfl ?_
    refine chM_S (a0 := a0) (h := h) (pc := 62) gU (as := [sr (some (a0 + mo 17)), si ((100 : Int32) * a.1), sr (some (a0 + mo 28)), si (0 : Int32), si (m7 29 0)]) (st := []) (N := mX11_copy) (k := k) (n := n) (k1 := 0) (n1 := 0) dX11_comeKept_62 lkX11_181 caX11_copy csX11_copy rfl (fun Q1 hq => tX11_copy a0 h 17 ((100 : Int32) * a.1) 28 (0 : Int32) (m7 29 0) m7 Q1 hq) ⟨by decide, by decide⟩ (Nat.le_of_ble_eq_true rfl) rfl hF (fun x8 m9 hF => ?_)
    show gV G mX11_comeKept 3 Q 65 [some (sr (some a0)), some (si a.1)] [] (k) (n) (jn a0 h m9)
    refine v_aload_n (pc := 65) (i := 0) dX11_comeKept_65 rfl rfl ?_
    refine m_getA (pc := 66) (j := 16) dX11_comeKept_66 flX11_56 rfl (by decide) ?_
    refine v_iload_n (pc := 69) (i := 1) dX11_comeKept_69 rfl rfl ?_
    refine v_iconst (pc := 70) (v := (0 : Int32)) dX11_comeKept_70 rfl ?_
    refine m_iast (pc := 71) (j := 16) dX11_comeKept_71 hF (fun m10 hF => ?_)
    refine v_aload_n (pc := 72) (i := 0) dX11_comeKept_72 rfl rfl ?_
    refine m_getA (pc := 73) (j := 15) dX11_comeKept_73 flX11_53 rfl (by decide) ?_
    refine v_iload_n (pc := 76) (i := 1) dX11_comeKept_76 rfl rfl ?_
    refine v_aload_n (pc := 77) (i := 0) dX11_comeKept_77 rfl rfl ?_
    refine m_getI (pc := 78) (j := 46) dX11_comeKept_78 flX11_206 rfl rfl ?_
    refine m_iast (pc := 81) (j := 15) dX11_comeKept_81 hF (fun m11 hF => ?_)
    refine v_aload_n (pc := 82) (i := 0) dX11_comeKept_82 rfl rfl ?_
    refine chM_V (pc := 83) gU (as := []) (st := []) (N := mX11_comeNews) (k := k) (n := n) (k1 := 0) (n1 := 0) dX11_comeKept_83 lkX11_215 caX11_comeNews cvX11_comeNews rfl rfl (fun Q1 hq => tX11_comeNews a0 h m11 Q1 hq) ⟨by decide, by decide⟩ (Nat.le_of_ble_eq_true rfl) rfl hF (fun x12 m13 hF => ?_)
    show gV G mX11_comeKept 3 Q 86 [some (sr (some a0)), some (si a.1)] [] (k) (n) (jn a0 h m13)
    refine v_goto (pc := 86) 94 dX11_comeKept_86 rfl ?_
    refine v_iinc (pc := 94) (i := 1) (a.1 + (1 : Int32)) [some (sr (some a0)), some (si (a.1 + (1 : Int32)))] dX11_comeKept_94 rfl rfl rfl rfl ?_
    refine v_goto (pc := 97) 2 dX11_comeKept_97 rfl ?_
    exact v_lle [some (sr (some a0)), some (si (a.1 + (1 : Int32)))] ⟨rfl, rfl, trivial⟩ (hL (a.1 + (1 : Int32), m13) (okB_some hF)))
theorem tX11_comeKept {G : gG} (a0 : Nat) (h : hp)  (m : mm) (Q : hQ) (hF : okB (fX11_comeKept m) (pM gU Q a0 h)) : gS G mX11_comeKept 3 0 0 [sr (some a0)] (jn a0 h m) Q := by
  delta fX11_comeKept at hF
  refine gS_at [some (sr (some a0)), none] pl_X11 rfl (Nat.le_of_ble_eq_true rfl) rfl ?_
  refine v_iconst (pc := 0) (v := (0 : Int32)) dX11_comeKept_0 rfl ?_
  refine v_istore_n (pc := 1) (i := 1) [some (sr (some a0)), some (si (0 : Int32))] dX11_comeKept_1 rfl (by decide) rfl rfl ?_
  refine mg (X := fun q1 => gV G mX11_comeKept 3 Q 100 [none, none] [] (0) (0) (jn a0 h q1)) hF (fun _ hj2 hF => v_lle [some (sr (some a0)), some (si (0 : Int32))] ⟨rfl, rfl, trivial⟩ (lX11_comeKept_2 a0 h hj2 FU ((0 : Int32), m) hF)) (fun q1 hF => ?_)
  exact v_ret (pc := 100) dX11_comeKept_100 rfl (okr hF fun q => q)
/-! BrailleDeskModel.tick -/
theorem lX11_tick_23 {G : gG} {Q : hQ} {P : (Int32 × mm) → Prop} {k n : Nat} (a0 : Nat) (h : hp) (c1 : Int32) (hJ : ∀ q : (Int32 × mm), P q → gV G mX11_tick 4 Q 142 [none, none, some (si q.1), none] [] (k) (n) (jn a0 h q.2)) : ∀ (fu : Nat) (a : (Int32 × Int32 × mm)), okB (itr (fX11_tick_B23 c1) fu a) P → gV G mX11_tick 4 Q 23 [some (sr (some a0)), some (si c1), some (si a.1), some (si a.2.1)] [] (k) (n) (jn a0 h a.2.2) :=
  lpg (X := fun (a : (Int32 × Int32 × mm)) => gV G mX11_tick 4 Q 23 [some (sr (some a0)), some (si c1), some (si a.1), some (si a.2.1)] [] (k) (n) (jn a0 h a.2.2)) (fun a P2 hL hE hF => by
    delta fX11_tick_B23 at hF
    refine v_iload_n (pc := 23) (i := 3) dX11_tick_23 rfl rfl ?_
    refine v_iload_n (pc := 24) (i := 1) dX11_tick_24 rfl rfl ?_
    refine v_icmp_ge (pc := 25) 142 dX11_tick_25 rfl (fun hc => ?_) (fun hc => ?_)
    · replace hF := (okB_if hF).1 hc
      exact v_lle [none, none, some (si a.1), none] ⟨rfl, trivial⟩ (hJ (a.1, a.2.2) (hE _ (okB_some hF)))
    replace hF := (okB_if hF).2 hc
    refine v_aload_n (pc := 28) (i := 0) dX11_tick_28 rfl rfl ?_
    refine m_getI (pc := 29) (j := 48) dX11_tick_29 flX11_111 rfl rfl ?_
    refine v_if_ne (pc := 32) 142 dX11_tick_32 rfl (fun hc => ?_) (fun hc => ?_)
    · replace hF := (okB_if hF).2 hc
      exact v_lle [none, none, some (si a.1), none] ⟨rfl, trivial⟩ (hJ (a.1, a.2.2) (hE _ (okB_some hF)))
    replace hF := (okB_if hF).1 hc
    refine v_aload_n (pc := 35) (i := 0) dX11_tick_35 rfl rfl ?_
    refine v_dup (pc := 36) dX11_tick_36 rfl ?_
    refine m_getI (pc := 37) (j := 46) dX11_tick_37 flX11_206 rfl rfl ?_
    refine v_iconst (pc := 40) (v := (1 : Int32)) dX11_tick_40 rfl ?_
    refine v_iadd (pc := 41) dX11_tick_41 ?_
    refine m_putI (pc := 42) (j := 46) dX11_tick_42 flX11_206 rfl rfl rfl hF (fun m1 hF => ?_)
    refine v_aload_n (pc := 45) (i := 0) dX11_tick_45 rfl rfl ?_
    refine chM_V (pc := 46) gU (as := []) (st := []) (N := mX11_comeKept) (k := k) (n := n) (k1 := 0) (n1 := 0) dX11_tick_46 lkX11_412 caX11_comeKept cvX11_comeKept rfl rfl (fun Q1 hq => tX11_comeKept a0 h m1 Q1 hq) ⟨by decide, by decide⟩ (Nat.le_of_ble_eq_true rfl) rfl hF (fun x2 m3 hF => ?_)
    show gV G mX11_tick 4 Q 49 [some (sr (some a0)), some (si c1), some (si a.1), some (si a.2.1)] [] (k) (n) (jn a0 h m3)
    refine v_aload_n (pc := 49) (i := 0) dX11_tick_49 rfl rfl ?_
    refine m_getI (pc := 50) (j := 38) dX11_tick_50 flX11_108 rfl rfl ?_
    refine v_iconst (pc := 53) (v := (-1 : Int32)) dX11_tick_53 rfl ?_
    refine mg (X := fun q4 => gV G mX11_tick 4 Q 61 [some (sr (some a0)), some (si c1), some (si a.1), some (si a.2.1)] [] (k) (n) (jn a0 h q4)) hF (fun _ hj5 hF => ?_) (fun q4 hF => ?_)
    · refine v_icmp_ne (pc := 54) 61 dX11_tick_54 rfl (fun hc => ?_) (fun hc => ?_)
      · replace hF := (okB_if hF).2 hc
        exact v_lle [some (sr (some a0)), some (si c1), some (si a.1), some (si a.2.1)] ⟨rfl, rfl, rfl, rfl, trivial⟩ (hj5 m3 (okB_some hF))
      replace hF := (okB_if hF).1 hc
      refine v_aload_n (pc := 57) (i := 0) dX11_tick_57 rfl rfl ?_
      refine chM_V (pc := 58) gU (as := []) (st := []) (N := mX11_beginSpeech) (k := k) (n := n) (k1 := 0) (n1 := 0) dX11_tick_58 lkX11_415 caX11_beginSpeech cvX11_beginSpeech rfl rfl (fun Q1 hq => tX11_beginSpeech a0 h m3 Q1 hq) ⟨by decide, by decide⟩ (Nat.le_of_ble_eq_true rfl) rfl hF (fun x6 m7 hF => ?_)
      show gV G mX11_tick 4 Q 61 [some (sr (some a0)), some (si c1), some (si a.1), some (si a.2.1)] [] (k) (n) (jn a0 h m7)
      exact v_lle [some (sr (some a0)), some (si c1), some (si a.1), some (si a.2.1)] ⟨rfl, rfl, rfl, rfl, trivial⟩ (hj5 m7 (okB_some hF))
    refine v_aload_n (pc := 61) (i := 0) dX11_tick_61 rfl rfl ?_
    refine m_getI (pc := 62) (j := 38) dX11_tick_62 flX11_108 rfl rfl ?_
    refine v_iconst (pc := 65) (v := (-1 : Int32)) dX11_tick_65 rfl ?_
    refine v_icmp_eq (pc := 66) 136 dX11_tick_66 rfl (fun hc => ?_) (fun hc => ?_)
    · replace hF := (okB_if hF).1 hc
      refine v_iinc (pc := 136) (i := 3) (a.2.1 + (1 : Int32)) [some (sr (some a0)), some (si c1), some (si a.1), some (si (a.2.1 + (1 : Int32)))] dX11_tick_136 rfl rfl rfl rfl ?_
      refine v_goto (pc := 139) 23 dX11_tick_139 rfl ?_
      exact v_lle [some (sr (some a0)), some (si c1), some (si a.1), some (si (a.2.1 + (1 : Int32)))] ⟨rfl, rfl, rfl, rfl, trivial⟩ (hL (a.1, a.2.1 + (1 : Int32), q4) (okB_some hF))
    replace hF := (okB_if hF).2 hc
    refine v_aload_n (pc := 69) (i := 0) dX11_tick_69 rfl rfl ?_
    refine m_getA (pc := 70) (j := 42) dX11_tick_70 flX11_86 rfl (by decide) ?_
    refine v_aload_n (pc := 73) (i := 0) dX11_tick_73 rfl rfl ?_
    refine m_getI (pc := 74) (j := 43) dX11_tick_74 flX11_418 rfl rfl ?_
    refine v_bipush (pc := 77) (v := (100 : Int32)) dX11_tick_77 rfl ?_
    refine s_irem (pc := 79) dX11_tick_79 hF (fun hF => ?_)
    refine v_aload_n (pc := 80) (i := 0) dX11_tick_80 rfl rfl ?_
    refine m_getA (pc := 81) (j := 39) dX11_tick_81 flX11_83 rfl (by decide) ?_
    refine v_aload_n (pc := 84) (i := 0) dX11_tick_84 rfl rfl ?_
    refine m_getI (pc := 85) (j := 41) dX11_tick_85 flX11_197 rfl rfl ?_
    refine m_iald (pc := 88) (j := 39) dX11_tick_88 hF (fun x8 hF => ?_)
    refine m_iast (pc := 89) (j := 42) dX11_tick_89 hF (fun m9 hF => ?_)
    refine v_aload_n (pc := 90) (i := 0) dX11_tick_90 rfl rfl ?_
    refine v_dup (pc := 91) dX11_tick_91 rfl ?_
    refine m_getI (pc := 92) (j := 43) dX11_tick_92 flX11_418 rfl rfl ?_
    refine v_iconst (pc := 95) (v := (1 : Int32)) dX11_tick_95 rfl ?_
    refine v_iadd (pc := 96) dX11_tick_96 ?_
    refine m_putI (pc := 97) (j := 43) dX11_tick_97 flX11_418 rfl rfl rfl hF (fun m10 hF => ?_)
    refine v_aload_n (pc := 100) (i := 0) dX11_tick_100 rfl rfl ?_
    refine v_dup (pc := 101) dX11_tick_101 rfl ?_
    refine m_getI (pc := 102) (j := 41) dX11_tick_102 flX11_197 rfl rfl ?_
    refine v_iconst (pc := 105) (v := (1 : Int32)) dX11_tick_105 rfl ?_
    refine v_iadd (pc := 106) dX11_tick_106 ?_
    refine m_putI (pc := 107) (j := 41) dX11_tick_107 flX11_197 rfl rfl rfl hF (fun m11 hF => ?_)
    refine v_iinc (pc := 110) (i := 2) (a.1 + (1 : Int32)) [some (sr (some a0)), some (si c1), some (si (a.1 + (1 : Int32))), some (si a.2.1)] dX11_tick_110 rfl rfl rfl rfl ?_
    refine v_aload_n (pc := 113) (i := 0) dX11_tick_113 rfl rfl ?_
    refine v_aload_n (pc := 114) (i := 0) dX11_tick_114 rfl rfl ?_
    refine m_getI (pc := 115) (j := 41) dX11_tick_115 flX11_197 rfl rfl ?_
    refine v_aload_n (pc := 118) (i := 0) dX11_tick_118 rfl rfl ?_
    refine m_getI (pc := 119) (j := 40) dX11_tick_119 flX11_200 rfl rfl ?_
    refine mg (X := fun q12 => gV G mX11_tick 4 Q 133 [some (sr (some a0)), some (si c1), some (si (a.1 + (1 : Int32))), some (si a.2.1)] [si q12, sr (some a0)] (k) (n) (jn a0 h m11)) hF (fun _ hj13 hF => ?_) (fun q12 hF => ?_)
    · refine v_icmp_ne (pc := 122) 129 dX11_tick_122 rfl (fun hc => ?_) (fun hc => ?_)
      · replace hF := (okB_if hF).2 hc
        refine v_aload_n (pc := 129) (i := 0) dX11_tick_129 rfl rfl ?_
        refine m_getI (pc := 130) (j := 38) dX11_tick_130 flX11_108 rfl rfl ?_
        exact v_lle [some (sr (some a0)), some (si c1), some (si (a.1 + (1 : Int32))), some (si a.2.1)] ⟨rfl, rfl, rfl, rfl, trivial⟩ (hj13 (m11 38 0) (okB_some hF))
      replace hF := (okB_if hF).1 hc
      refine v_iconst (pc := 125) (v := (-1 : Int32)) dX11_tick_125 rfl ?_
      refine v_goto (pc := 126) 133 dX11_tick_126 rfl ?_
      exact v_lle [some (sr (some a0)), some (si c1), some (si (a.1 + (1 : Int32))), some (si a.2.1)] ⟨rfl, rfl, rfl, rfl, trivial⟩ (hj13 (-1 : Int32) (okB_some hF))
    refine m_putI (pc := 133) (j := 38) dX11_tick_133 flX11_108 rfl rfl rfl hF (fun m14 hF => ?_)
    refine v_iinc (pc := 136) (i := 3) (a.2.1 + (1 : Int32)) [some (sr (some a0)), some (si c1), some (si (a.1 + (1 : Int32))), some (si (a.2.1 + (1 : Int32)))] dX11_tick_136 rfl rfl rfl rfl ?_
    refine v_goto (pc := 139) 23 dX11_tick_139 rfl ?_
    exact v_lle [some (sr (some a0)), some (si c1), some (si (a.1 + (1 : Int32))), some (si (a.2.1 + (1 : Int32)))] ⟨rfl, rfl, rfl, rfl, trivial⟩ (hL (a.1 + (1 : Int32), a.2.1 + (1 : Int32), m14) (okB_some hF)))
theorem tX11_tick {G : gG} (a0 : Nat) (h : hp) (a1 : Int32) (m : mm) (Q : hQ) (hF : okB (fX11_tick a1 m) (pM gI Q a0 h)) : gS G mX11_tick 4 0 0 [sr (some a0), si a1] (jn a0 h m) Q := by
  delta fX11_tick at hF
  refine gS_at [some (sr (some a0)), some (si a1), none, none] pl_X11 rfl (Nat.le_of_ble_eq_true rfl) rfl ?_
  refine v_aload_n (pc := 0) (i := 0) dX11_tick_0 rfl rfl ?_
  refine v_iload_n (pc := 1) (i := 1) dX11_tick_1 rfl rfl ?_
  refine v_iconst (pc := 2) (v := (1 : Int32)) dX11_tick_2 rfl ?_
  refine v_bipush (pc := 3) (v := (50 : Int32)) dX11_tick_3 rfl ?_
  refine cp_S (pc := 5) gI (as := [si a1, si (1 : Int32), si (50 : Int32)]) (st := [sr (some a0)]) (N := mX11_in) (k := 0) (n := 0) (k1 := 0) (n1 := 0) dX11_tick_5 lkX11_114 caX11_in csX11_in rfl (fun Q1 hq => tX11_in a1 (1 : Int32) (50 : Int32) (jn a0 h m) Q1 hq) ⟨by decide, by decide⟩ (Nat.le_of_ble_eq_true rfl) rfl hF (fun x1 hF => ?_)
  show gV G mX11_tick 4 Q 8 [some (sr (some a0)), some (si a1), none, none] [si x1, sr (some a0)] (0) (0) (jn a0 h m)
  refine mg (X := fun q2 => gV G mX11_tick 4 Q 16 [some (sr (some a0)), some (si a1), none, none] [si q2, sr (some a0)] (0) (0) (jn a0 h m)) hF (fun _ hj3 hF => ?_) (fun q2 hF => ?_)
  · refine v_if_eq (pc := 8) 15 dX11_tick_8 rfl (fun hc => ?_) (fun hc => ?_)
    · replace hF := (okB_if hF).1 hc
      refine v_iconst (pc := 15) (v := (1 : Int32)) dX11_tick_15 rfl ?_
      exact v_lle [some (sr (some a0)), some (si a1), none, none] ⟨rfl, rfl, trivial⟩ (hj3 (1 : Int32) (okB_some hF))
    replace hF := (okB_if hF).2 hc
    refine v_iconst (pc := 11) (v := (0 : Int32)) dX11_tick_11 rfl ?_
    refine v_goto (pc := 12) 16 dX11_tick_12 rfl ?_
    exact v_lle [some (sr (some a0)), some (si a1), none, none] ⟨rfl, rfl, trivial⟩ (hj3 (0 : Int32) (okB_some hF))
  refine m_putI (pc := 16) (j := 48) dX11_tick_16 flX11_111 rfl rfl rfl hF (fun m4 hF => ?_)
  refine v_iconst (pc := 19) (v := (0 : Int32)) dX11_tick_19 rfl ?_
  refine v_istore_n (pc := 20) (i := 2) [some (sr (some a0)), some (si a1), some (si (0 : Int32)), none] dX11_tick_20 rfl (by decide) rfl rfl ?_
  refine v_iconst (pc := 21) (v := (0 : Int32)) dX11_tick_21 rfl ?_
  refine v_istore_n (pc := 22) (i := 3) [some (sr (some a0)), some (si a1), some (si (0 : Int32)), some (si (0 : Int32))] dX11_tick_22 rfl (by decide) rfl rfl ?_
  refine mg (X := fun q5 => gV G mX11_tick 4 Q 142 [none, none, some (si q5.1), none] [] (0) (0) (jn a0 h q5.2)) hF (fun _ hj6 hF => v_lle [some (sr (some a0)), some (si a1), some (si (0 : Int32)), some (si (0 : Int32))] ⟨rfl, rfl, rfl, rfl, trivial⟩ (lX11_tick_23 a0 h a1 hj6 FU ((0 : Int32), (0 : Int32), m4) hF)) (fun q5 hF => ?_)
  refine v_iload_n (pc := 142) (i := 2) dX11_tick_142 rfl rfl ?_
  exact v_iret (pc := 143) dX11_tick_143 rfl rfl (okr hF fun q => q)
/-! BrailleDeskModel.time -/
theorem tX11_time {G : gG} (a0 : Nat) (h : hp)  (m : mm) (Q : hQ) (hF : okB (fX11_time m) (pM gI Q a0 h)) : gS G mX11_time 0 0 0 [sr (some a0)] (jn a0 h m) Q := by
  delta fX11_time at hF
  refine gS_at [some (sr (some a0))] pl_X11 rfl (Nat.le_of_ble_eq_true rfl) rfl ?_
  refine v_aload_n (pc := 0) (i := 0) dX11_time_0 rfl rfl ?_
  refine v_iconst (pc := 1) (v := (0 : Int32)) dX11_time_1 rfl ?_
  refine m_putI (pc := 2) (j := 48) dX11_time_2 flX11_111 rfl rfl rfl hF (fun m1 hF => ?_)
  refine v_aload_n (pc := 5) (i := 0) dX11_time_5 rfl rfl ?_
  refine m_getI (pc := 6) (j := 46) dX11_time_6 flX11_206 rfl rfl ?_
  exact v_iret (pc := 9) dX11_time_9 rfl rfl (okr hF fun q => q)
/-! BrailleDeskModel.speaking -/
theorem tX11_speaking {G : gG} (a0 : Nat) (h : hp)  (m : mm) (Q : hQ) (hF : okB (fX11_speaking m) (pM gI Q a0 h)) : gS G mX11_speaking 0 0 0 [sr (some a0)] (jn a0 h m) Q := by
  delta fX11_speaking at hF
  refine gS_at [some (sr (some a0))] pl_X11 rfl (Nat.le_of_ble_eq_true rfl) rfl ?_
  refine v_aload_n (pc := 0) (i := 0) dX11_speaking_0 rfl rfl ?_
  refine v_iconst (pc := 1) (v := (0 : Int32)) dX11_speaking_1 rfl ?_
  refine m_putI (pc := 2) (j := 48) dX11_speaking_2 flX11_111 rfl rfl rfl hF (fun m1 hF => ?_)
  refine v_aload_n (pc := 5) (i := 0) dX11_speaking_5 rfl rfl ?_
  refine m_getI (pc := 6) (j := 38) dX11_speaking_6 flX11_108 rfl rfl ?_
  exact v_iret (pc := 9) dX11_speaking_9 rfl rfl (okr hF fun q => q)
/-! BrailleDeskModel.left -/
theorem tX11_left {G : gG} (a0 : Nat) (h : hp)  (m : mm) (Q : hQ) (hF : okB (fX11_left m) (pM gI Q a0 h)) : gS G mX11_left 0 0 0 [sr (some a0)] (jn a0 h m) Q := by
  delta fX11_left at hF
  refine gS_at [some (sr (some a0))] pl_X11 rfl (Nat.le_of_ble_eq_true rfl) rfl ?_
  refine v_aload_n (pc := 0) (i := 0) dX11_left_0 rfl rfl ?_
  refine v_iconst (pc := 1) (v := (0 : Int32)) dX11_left_1 rfl ?_
  refine m_putI (pc := 2) (j := 48) dX11_left_2 flX11_111 rfl rfl rfl hF (fun m1 hF => ?_)
  refine v_aload_n (pc := 5) (i := 0) dX11_left_5 rfl rfl ?_
  refine m_getI (pc := 6) (j := 38) dX11_left_6 flX11_108 rfl rfl ?_
  refine v_iconst (pc := 9) (v := (-1 : Int32)) dX11_left_9 rfl ?_
  refine v_icmp_ne (pc := 10) 17 dX11_left_10 rfl (fun hc => ?_) (fun hc => ?_)
  · replace hF := (okB_if hF).2 hc
    refine v_aload_n (pc := 17) (i := 0) dX11_left_17 rfl rfl ?_
    refine m_getI (pc := 18) (j := 40) dX11_left_18 flX11_200 rfl rfl ?_
    refine v_aload_n (pc := 21) (i := 0) dX11_left_21 rfl rfl ?_
    refine m_getI (pc := 22) (j := 41) dX11_left_22 flX11_197 rfl rfl ?_
    refine v_isub (pc := 25) dX11_left_25 ?_
    exact v_iret (pc := 26) dX11_left_26 rfl rfl (okr hF fun q => q)
  replace hF := (okB_if hF).1 hc
  refine v_iconst (pc := 13) (v := (0 : Int32)) dX11_left_13 rfl ?_
  refine v_goto (pc := 14) 26 dX11_left_14 rfl ?_
  exact v_iret (pc := 26) dX11_left_26 rfl rfl (okr hF fun q => q)
/-! BrailleDeskModel.waiting -/
theorem tX11_waiting {G : gG} (a0 : Nat) (h : hp) (a1 : Int32) (m : mm) (Q : hQ) (hF : okB (fX11_waiting a1 m) (pM gI Q a0 h)) : gS G mX11_waiting 1 0 0 [sr (some a0), si a1] (jn a0 h m) Q := by
  delta fX11_waiting at hF
  refine gS_at [some (sr (some a0)), some (si a1)] pl_X11 rfl (Nat.le_of_ble_eq_true rfl) rfl ?_
  refine v_aload_n (pc := 0) (i := 0) dX11_waiting_0 rfl rfl ?_
  refine v_iload_n (pc := 1) (i := 1) dX11_waiting_1 rfl rfl ?_
  refine v_iconst (pc := 2) (v := (0 : Int32)) dX11_waiting_2 rfl ?_
  refine v_iconst (pc := 3) (v := (2 : Int32)) dX11_waiting_3 rfl ?_
  refine cp_S (pc := 4) gI (as := [si a1, si (0 : Int32), si (2 : Int32)]) (st := [sr (some a0)]) (N := mX11_in) (k := 0) (n := 0) (k1 := 0) (n1 := 0) dX11_waiting_4 lkX11_114 caX11_in csX11_in rfl (fun Q1 hq => tX11_in a1 (0 : Int32) (2 : Int32) (jn a0 h m) Q1 hq) ⟨by decide, by decide⟩ (Nat.le_of_ble_eq_true rfl) rfl hF (fun x1 hF => ?_)
  show gV G mX11_waiting 1 Q 7 [some (sr (some a0)), some (si a1)] [si x1, sr (some a0)] (0) (0) (jn a0 h m)
  refine mg (X := fun q2 => gV G mX11_waiting 1 Q 15 [some (sr (some a0)), some (si a1)] [si q2, sr (some a0)] (0) (0) (jn a0 h m)) hF (fun _ hj3 hF => ?_) (fun q2 hF => ?_)
  · refine v_if_eq (pc := 7) 14 dX11_waiting_7 rfl (fun hc => ?_) (fun hc => ?_)
    · replace hF := (okB_if hF).1 hc
      refine v_iconst (pc := 14) (v := (1 : Int32)) dX11_waiting_14 rfl ?_
      exact v_lle [some (sr (some a0)), some (si a1)] ⟨rfl, rfl, trivial⟩ (hj3 (1 : Int32) (okB_some hF))
    replace hF := (okB_if hF).2 hc
    refine v_iconst (pc := 10) (v := (0 : Int32)) dX11_waiting_10 rfl ?_
    refine v_goto (pc := 11) 15 dX11_waiting_11 rfl ?_
    exact v_lle [some (sr (some a0)), some (si a1)] ⟨rfl, rfl, trivial⟩ (hj3 (0 : Int32) (okB_some hF))
  refine m_putI (pc := 15) (j := 48) dX11_waiting_15 flX11_111 rfl rfl rfl hF (fun m4 hF => ?_)
  refine v_aload_n (pc := 18) (i := 0) dX11_waiting_18 rfl rfl ?_
  refine m_getI (pc := 19) (j := 48) dX11_waiting_19 flX11_111 rfl rfl ?_
  refine v_if_le (pc := 22) 29 dX11_waiting_22 rfl (fun hc => ?_) (fun hc => ?_)
  · replace hF := (okB_if hF).1 hc
    refine v_iload_n (pc := 29) (i := 1) dX11_waiting_29 rfl rfl ?_
    refine v_if_ne (pc := 30) 40 dX11_waiting_30 rfl (fun hc => ?_) (fun hc => ?_)
    · replace hF := (okB_if hF).2 hc
      refine v_iload_n (pc := 40) (i := 1) dX11_waiting_40 rfl rfl ?_
      refine v_iconst (pc := 41) (v := (2 : Int32)) dX11_waiting_41 rfl ?_
      refine v_icmp_ne (pc := 42) 52 dX11_waiting_42 rfl (fun hc => ?_) (fun hc => ?_)
      · replace hF := (okB_if hF).2 hc
        refine v_aload_n (pc := 52) (i := 0) dX11_waiting_52 rfl rfl ?_
        refine m_getI (pc := 53) (j := 34) dX11_waiting_53 flX11_194 rfl rfl ?_
        refine v_if_le (pc := 56) 63 dX11_waiting_56 rfl (fun hc => ?_) (fun hc => ?_)
        · replace hF := (okB_if hF).1 hc
          refine v_iconst (pc := 63) (v := (0 : Int32)) dX11_waiting_63 rfl ?_
          exact v_iret (pc := 64) dX11_waiting_64 rfl rfl (okr hF fun q => q)
        replace hF := (okB_if hF).2 hc
        refine v_iconst (pc := 59) (v := (1 : Int32)) dX11_waiting_59 rfl ?_
        refine v_goto (pc := 60) 64 dX11_waiting_60 rfl ?_
        exact v_iret (pc := 64) dX11_waiting_64 rfl rfl (okr hF fun q => q)
      replace hF := (okB_if hF).1 hc
      refine v_aload_n (pc := 45) (i := 0) dX11_waiting_45 rfl rfl ?_
      refine m_getI (pc := 46) (j := 37) dX11_waiting_46 flX11_191 rfl rfl ?_
      refine v_goto (pc := 49) 64 dX11_waiting_49 rfl ?_
      exact v_iret (pc := 64) dX11_waiting_64 rfl rfl (okr hF fun q => q)
    replace hF := (okB_if hF).1 hc
    refine v_aload_n (pc := 33) (i := 0) dX11_waiting_33 rfl rfl ?_
    refine m_getI (pc := 34) (j := 32) dX11_waiting_34 flX11_178 rfl rfl ?_
    refine v_goto (pc := 37) 64 dX11_waiting_37 rfl ?_
    exact v_iret (pc := 64) dX11_waiting_64 rfl rfl (okr hF fun q => q)
  replace hF := (okB_if hF).2 hc
  refine v_iconst (pc := 25) (v := (0 : Int32)) dX11_waiting_25 rfl ?_
  refine v_goto (pc := 26) 64 dX11_waiting_26 rfl ?_
  exact v_iret (pc := 64) dX11_waiting_64 rfl rfl (okr hF fun q => q)
/-! BrailleDeskModel.heard -/
theorem tX11_heard {G : gG} (a0 : Nat) (h : hp)  (m : mm) (Q : hQ) (hF : okB (fX11_heard m) (pM gI Q a0 h)) : gS G mX11_heard 0 0 0 [sr (some a0)] (jn a0 h m) Q := by
  delta fX11_heard at hF
  refine gS_at [some (sr (some a0))] pl_X11 rfl (Nat.le_of_ble_eq_true rfl) rfl ?_
  refine v_aload_n (pc := 0) (i := 0) dX11_heard_0 rfl rfl ?_
  refine v_iconst (pc := 1) (v := (0 : Int32)) dX11_heard_1 rfl ?_
  refine m_putI (pc := 2) (j := 48) dX11_heard_2 flX11_111 rfl rfl rfl hF (fun m1 hF => ?_)
  refine v_aload_n (pc := 5) (i := 0) dX11_heard_5 rfl rfl ?_
  refine m_getI (pc := 6) (j := 43) dX11_heard_6 flX11_418 rfl rfl ?_
  exact v_iret (pc := 9) dX11_heard_9 rfl rfl (okr hF fun q => q)
/-! BrailleDeskModel.heardAt -/
theorem tX11_heardAt {G : gG} (a0 : Nat) (h : hp) (a1 : Int32) (m : mm) (Q : hQ) (hF : okB (fX11_heardAt a1 m) (pM gI Q a0 h)) : gS G mX11_heardAt 1 0 0 [sr (some a0), si a1] (jn a0 h m) Q := by
  delta fX11_heardAt at hF
  refine gS_at [some (sr (some a0)), some (si a1)] pl_X11 rfl (Nat.le_of_ble_eq_true rfl) rfl ?_
  refine v_aload_n (pc := 0) (i := 0) dX11_heardAt_0 rfl rfl ?_
  refine v_iload_n (pc := 1) (i := 1) dX11_heardAt_1 rfl rfl ?_
  refine v_iconst (pc := 2) (v := (0 : Int32)) dX11_heardAt_2 rfl ?_
  refine v_bipush (pc := 3) (v := (99 : Int32)) dX11_heardAt_3 rfl ?_
  refine cp_S (pc := 5) gI (as := [si a1, si (0 : Int32), si (99 : Int32)]) (st := [sr (some a0)]) (N := mX11_in) (k := 0) (n := 0) (k1 := 0) (n1 := 0) dX11_heardAt_5 lkX11_114 caX11_in csX11_in rfl (fun Q1 hq => tX11_in a1 (0 : Int32) (99 : Int32) (jn a0 h m) Q1 hq) ⟨by decide, by decide⟩ (Nat.le_of_ble_eq_true rfl) rfl hF (fun x1 hF => ?_)
  show gV G mX11_heardAt 1 Q 8 [some (sr (some a0)), some (si a1)] [si x1, sr (some a0)] (0) (0) (jn a0 h m)
  refine mg (X := fun q2 => gV G mX11_heardAt 1 Q 24 [some (sr (some a0)), some (si a1)] [si q2, sr (some a0)] (0) (0) (jn a0 h m)) hF (fun _ hj3 hF => ?_) (fun q2 hF => ?_)
  · refine v_if_eq (pc := 8) 23 dX11_heardAt_8 rfl (fun hc => ?_) (fun hc => ?_)
    · replace hF := (okB_if hF).1 hc
      refine v_iconst (pc := 23) (v := (1 : Int32)) dX11_heardAt_23 rfl ?_
      exact v_lle [some (sr (some a0)), some (si a1)] ⟨rfl, rfl, trivial⟩ (hj3 (1 : Int32) (okB_some hF))
    replace hF := (okB_if hF).2 hc
    refine v_iload_n (pc := 11) (i := 1) dX11_heardAt_11 rfl rfl ?_
    refine v_aload_n (pc := 12) (i := 0) dX11_heardAt_12 rfl rfl ?_
    refine m_getI (pc := 13) (j := 43) dX11_heardAt_13 flX11_418 rfl rfl ?_
    refine v_icmp_ge (pc := 16) 23 dX11_heardAt_16 rfl (fun hc => ?_) (fun hc => ?_)
    · replace hF := (okB_if hF).1 hc
      refine v_iconst (pc := 23) (v := (1 : Int32)) dX11_heardAt_23 rfl ?_
      exact v_lle [some (sr (some a0)), some (si a1)] ⟨rfl, rfl, trivial⟩ (hj3 (1 : Int32) (okB_some hF))
    replace hF := (okB_if hF).2 hc
    refine v_iconst (pc := 19) (v := (0 : Int32)) dX11_heardAt_19 rfl ?_
    refine v_goto (pc := 20) 24 dX11_heardAt_20 rfl ?_
    exact v_lle [some (sr (some a0)), some (si a1)] ⟨rfl, rfl, trivial⟩ (hj3 (0 : Int32) (okB_some hF))
  refine m_putI (pc := 24) (j := 48) dX11_heardAt_24 flX11_111 rfl rfl rfl hF (fun m4 hF => ?_)
  refine v_aload_n (pc := 27) (i := 0) dX11_heardAt_27 rfl rfl ?_
  refine m_getI (pc := 28) (j := 48) dX11_heardAt_28 flX11_111 rfl rfl ?_
  refine v_if_ne (pc := 31) 53 dX11_heardAt_31 rfl (fun hc => ?_) (fun hc => ?_)
  · replace hF := (okB_if hF).2 hc
    refine v_iconst (pc := 53) (v := (0 : Int32)) dX11_heardAt_53 rfl ?_
    exact v_iret (pc := 54) dX11_heardAt_54 rfl rfl (okr hF fun q => q)
  replace hF := (okB_if hF).1 hc
  refine v_aload_n (pc := 34) (i := 0) dX11_heardAt_34 rfl rfl ?_
  refine m_getA (pc := 35) (j := 42) dX11_heardAt_35 flX11_86 rfl (by decide) ?_
  refine v_aload_n (pc := 38) (i := 0) dX11_heardAt_38 rfl rfl ?_
  refine m_getI (pc := 39) (j := 43) dX11_heardAt_39 flX11_418 rfl rfl ?_
  refine v_iconst (pc := 42) (v := (1 : Int32)) dX11_heardAt_42 rfl ?_
  refine v_isub (pc := 43) dX11_heardAt_43 ?_
  refine v_iload_n (pc := 44) (i := 1) dX11_heardAt_44 rfl rfl ?_
  refine v_isub (pc := 45) dX11_heardAt_45 ?_
  refine v_bipush (pc := 46) (v := (100 : Int32)) dX11_heardAt_46 rfl ?_
  refine s_irem (pc := 48) dX11_heardAt_48 hF (fun hF => ?_)
  refine m_iald (pc := 49) (j := 42) dX11_heardAt_49 hF (fun x5 hF => ?_)
  refine v_goto (pc := 50) 54 dX11_heardAt_50 rfl ?_
  exact v_iret (pc := 54) dX11_heardAt_54 rfl rfl (okr hF fun q => q)
/-! BrailleDeskModel.dropped -/
theorem tX11_dropped {G : gG} (a0 : Nat) (h : hp)  (m : mm) (Q : hQ) (hF : okB (fX11_dropped m) (pM gI Q a0 h)) : gS G mX11_dropped 0 0 0 [sr (some a0)] (jn a0 h m) Q := by
  delta fX11_dropped at hF
  refine gS_at [some (sr (some a0))] pl_X11 rfl (Nat.le_of_ble_eq_true rfl) rfl ?_
  refine v_aload_n (pc := 0) (i := 0) dX11_dropped_0 rfl rfl ?_
  refine v_iconst (pc := 1) (v := (0 : Int32)) dX11_dropped_1 rfl ?_
  refine m_putI (pc := 2) (j := 48) dX11_dropped_2 flX11_111 rfl rfl rfl hF (fun m1 hF => ?_)
  refine v_aload_n (pc := 5) (i := 0) dX11_dropped_5 rfl rfl ?_
  refine m_getI (pc := 6) (j := 44) dX11_dropped_6 flX11_188 rfl rfl ?_
  exact v_iret (pc := 9) dX11_dropped_9 rfl rfl (okr hF fun q => q)
/-! BrailleDeskModel.swallowed -/
theorem tX11_swallowed {G : gG} (a0 : Nat) (h : hp)  (m : mm) (Q : hQ) (hF : okB (fX11_swallowed m) (pM gI Q a0 h)) : gS G mX11_swallowed 0 0 0 [sr (some a0)] (jn a0 h m) Q := by
  delta fX11_swallowed at hF
  refine gS_at [some (sr (some a0))] pl_X11 rfl (Nat.le_of_ble_eq_true rfl) rfl ?_
  refine v_aload_n (pc := 0) (i := 0) dX11_swallowed_0 rfl rfl ?_
  refine v_iconst (pc := 1) (v := (0 : Int32)) dX11_swallowed_1 rfl ?_
  refine m_putI (pc := 2) (j := 48) dX11_swallowed_2 flX11_111 rfl rfl rfl hF (fun m1 hF => ?_)
  refine v_aload_n (pc := 5) (i := 0) dX11_swallowed_5 rfl rfl ?_
  refine m_getI (pc := 6) (j := 45) dX11_swallowed_6 flX11_221 rfl rfl ?_
  exact v_iret (pc := 9) dX11_swallowed_9 rfl rfl (okr hF fun q => q)
