/-! ===== methods: their functions and rows ===== -/
theorem dX9_comeAnswer_0 : decode cX9_comeAnswer 0 = .ok (.aload_n 1, 1) := by decide +kernel
theorem dX9_comeAnswer_1 : decode cX9_comeAnswer 1 = .ok (.invokevirtual 49, 3) := by decide +kernel
theorem dX9_comeAnswer_4 : decode cX9_comeAnswer 4 = .ok (.ifCond .ne 4, 3) := by decide +kernel
theorem dX9_comeAnswer_7 : decode cX9_comeAnswer 7 = .ok (.return_, 1) := by decide +kernel
theorem dX9_comeAnswer_8 : decode cX9_comeAnswer 8 = .ok (.aload_n 0, 1) := by decide +kernel
theorem dX9_comeAnswer_9 : decode cX9_comeAnswer 9 = .ok (.invokevirtual 63, 3) := by decide +kernel
theorem dX9_comeAnswer_12 : decode cX9_comeAnswer 12 = .ok (.aload_n 0, 1) := by decide +kernel
theorem dX9_comeAnswer_13 : decode cX9_comeAnswer 13 = .ok (.invokevirtual 66, 3) := by decide +kernel
theorem dX9_comeAnswer_16 : decode cX9_comeAnswer 16 = .ok (.aload_n 0, 1) := by decide +kernel
theorem dX9_comeAnswer_17 : decode cX9_comeAnswer 17 = .ok (.getfield 26, 3) := by decide +kernel
theorem dX9_comeAnswer_20 : decode cX9_comeAnswer 20 = .ok (.aload_n 1, 1) := by decide +kernel
theorem dX9_comeAnswer_21 : decode cX9_comeAnswer 21 = .ok (.invokevirtual 69, 3) := by decide +kernel
theorem dX9_comeAnswer_24 : decode cX9_comeAnswer 24 = .ok (.aload_n 0, 1) := by decide +kernel
theorem dX9_comeAnswer_25 : decode cX9_comeAnswer 25 = .ok (.iconst 0, 1) := by decide +kernel
theorem dX9_comeAnswer_26 : decode cX9_comeAnswer 26 = .ok (.putfield 72, 3) := by decide +kernel
theorem dX9_comeAnswer_29 : decode cX9_comeAnswer 29 = .ok (.aload_n 0, 1) := by decide +kernel
theorem dX9_comeAnswer_30 : decode cX9_comeAnswer 30 = .ok (.iconst 1, 1) := by decide +kernel
theorem dX9_comeAnswer_31 : decode cX9_comeAnswer 31 = .ok (.putfield 45, 3) := by decide +kernel
theorem dX9_comeAnswer_34 : decode cX9_comeAnswer 34 = .ok (.return_, 1) := by decide +kernel
theorem dX9_wordStart_0 : decode cX9_wordStart 0 = .ok (.iload_n 1, 1) := by decide +kernel
theorem dX9_wordStart_1 : decode cX9_wordStart 1 = .ok (.istore_n 2, 1) := by decide +kernel
theorem dX9_wordStart_2 : decode cX9_wordStart 2 = .ok (.iload_n 2, 1) := by decide +kernel
theorem dX9_wordStart_3 : decode cX9_wordStart 3 = .ok (.ifCond .le 31, 3) := by decide +kernel
theorem dX9_wordStart_6 : decode cX9_wordStart 6 = .ok (.aload_n 0, 1) := by decide +kernel
theorem dX9_wordStart_7 : decode cX9_wordStart 7 = .ok (.iload_n 1, 1) := by decide +kernel
theorem dX9_wordStart_8 : decode cX9_wordStart 8 = .ok (.invokevirtual 79, 3) := by decide +kernel
theorem dX9_wordStart_11 : decode cX9_wordStart 11 = .ok (.bipush 32, 2) := by decide +kernel
theorem dX9_wordStart_13 : decode cX9_wordStart 13 = .ok (.if_icmp .eq 21, 3) := by decide +kernel
theorem dX9_wordStart_16 : decode cX9_wordStart 16 = .ok (.aload_n 0, 1) := by decide +kernel
theorem dX9_wordStart_17 : decode cX9_wordStart 17 = .ok (.iload_n 2, 1) := by decide +kernel
theorem dX9_wordStart_18 : decode cX9_wordStart 18 = .ok (.iconst 1, 1) := by decide +kernel
theorem dX9_wordStart_19 : decode cX9_wordStart 19 = .ok (.isub, 1) := by decide +kernel
theorem dX9_wordStart_20 : decode cX9_wordStart 20 = .ok (.invokevirtual 79, 3) := by decide +kernel
theorem dX9_wordStart_23 : decode cX9_wordStart 23 = .ok (.bipush 32, 2) := by decide +kernel
theorem dX9_wordStart_25 : decode cX9_wordStart 25 = .ok (.if_icmp .eq 9, 3) := by decide +kernel
theorem dX9_wordStart_28 : decode cX9_wordStart 28 = .ok (.iinc 2 (-1), 3) := by decide +kernel
theorem dX9_wordStart_31 : decode cX9_wordStart 31 = .ok (.goto (-29), 3) := by decide +kernel
theorem dX9_wordStart_34 : decode cX9_wordStart 34 = .ok (.iload_n 2, 1) := by decide +kernel
theorem dX9_wordStart_35 : decode cX9_wordStart 35 = .ok (.ireturn, 1) := by decide +kernel
theorem dX9_comeAlert_0 : decode cX9_comeAlert 0 = .ok (.aload_n 1, 1) := by decide +kernel
theorem dX9_comeAlert_1 : decode cX9_comeAlert 1 = .ok (.invokevirtual 49, 3) := by decide +kernel
theorem dX9_comeAlert_4 : decode cX9_comeAlert 4 = .ok (.ifCond .ne 4, 3) := by decide +kernel
theorem dX9_comeAlert_7 : decode cX9_comeAlert 7 = .ok (.return_, 1) := by decide +kernel
theorem dX9_comeAlert_8 : decode cX9_comeAlert 8 = .ok (.aload_n 0, 1) := by decide +kernel
theorem dX9_comeAlert_9 : decode cX9_comeAlert 9 = .ok (.getfield 20, 3) := by decide +kernel
theorem dX9_comeAlert_12 : decode cX9_comeAlert 12 = .ok (.aload_n 1, 1) := by decide +kernel
theorem dX9_comeAlert_13 : decode cX9_comeAlert 13 = .ok (.invokevirtual 53, 3) := by decide +kernel
theorem dX9_comeAlert_16 : decode cX9_comeAlert 16 = .ok (.aload_n 0, 1) := by decide +kernel
theorem dX9_comeAlert_17 : decode cX9_comeAlert 17 = .ok (.getfield 33, 3) := by decide +kernel
theorem dX9_comeAlert_20 : decode cX9_comeAlert 20 = .ok (.ifCond .ne 10, 3) := by decide +kernel
theorem dX9_comeAlert_23 : decode cX9_comeAlert 23 = .ok (.aload_n 0, 1) := by decide +kernel
theorem dX9_comeAlert_24 : decode cX9_comeAlert 24 = .ok (.invokevirtual 66, 3) := by decide +kernel
theorem dX9_comeAlert_27 : decode cX9_comeAlert 27 = .ok (.goto 47, 3) := by decide +kernel
theorem dX9_comeAlert_30 : decode cX9_comeAlert 30 = .ok (.aload_n 0, 1) := by decide +kernel
theorem dX9_comeAlert_31 : decode cX9_comeAlert 31 = .ok (.getfield 33, 3) := by decide +kernel
theorem dX9_comeAlert_34 : decode cX9_comeAlert 34 = .ok (.iconst 1, 1) := by decide +kernel
theorem dX9_comeAlert_35 : decode cX9_comeAlert 35 = .ok (.if_icmp .ne 39, 3) := by decide +kernel
theorem dX9_comeAlert_38 : decode cX9_comeAlert 38 = .ok (.aload_n 0, 1) := by decide +kernel
theorem dX9_comeAlert_39 : decode cX9_comeAlert 39 = .ok (.getfield 26, 3) := by decide +kernel
theorem dX9_comeAlert_42 : decode cX9_comeAlert 42 = .ok (.aload_n 0, 1) := by decide +kernel
theorem dX9_comeAlert_43 : decode cX9_comeAlert 43 = .ok (.getfield 30, 3) := by decide +kernel
theorem dX9_comeAlert_46 : decode cX9_comeAlert 46 = .ok (.invokevirtual 69, 3) := by decide +kernel
theorem dX9_comeAlert_49 : decode cX9_comeAlert 49 = .ok (.aload_n 0, 1) := by decide +kernel
theorem dX9_comeAlert_50 : decode cX9_comeAlert 50 = .ok (.aload_n 0, 1) := by decide +kernel
theorem dX9_comeAlert_51 : decode cX9_comeAlert 51 = .ok (.getfield 30, 3) := by decide +kernel
theorem dX9_comeAlert_54 : decode cX9_comeAlert 54 = .ok (.aload_n 0, 1) := by decide +kernel
theorem dX9_comeAlert_55 : decode cX9_comeAlert 55 = .ok (.getfield 50, 3) := by decide +kernel
theorem dX9_comeAlert_58 : decode cX9_comeAlert 58 = .ok (.invokestatic 75, 3) := by decide +kernel
theorem dX9_comeAlert_61 : decode cX9_comeAlert 61 = .ok (.putfield 72, 3) := by decide +kernel
theorem dX9_comeAlert_64 : decode cX9_comeAlert 64 = .ok (.aload_n 0, 1) := by decide +kernel
theorem dX9_comeAlert_65 : decode cX9_comeAlert 65 = .ok (.iconst 1, 1) := by decide +kernel
theorem dX9_comeAlert_66 : decode cX9_comeAlert 66 = .ok (.putfield 45, 3) := by decide +kernel
theorem dX9_comeAlert_69 : decode cX9_comeAlert 69 = .ok (.aload_n 0, 1) := by decide +kernel
theorem dX9_comeAlert_70 : decode cX9_comeAlert 70 = .ok (.iconst (-1), 1) := by decide +kernel
theorem dX9_comeAlert_71 : decode cX9_comeAlert 71 = .ok (.putfield 33, 3) := by decide +kernel
theorem dX9_comeAlert_74 : decode cX9_comeAlert 74 = .ok (.return_, 1) := by decide +kernel
theorem dX9_hush_0 : decode cX9_hush 0 = .ok (.aload_n 0, 1) := by decide +kernel
theorem dX9_hush_1 : decode cX9_hush 1 = .ok (.dup, 1) := by decide +kernel
theorem dX9_hush_2 : decode cX9_hush 2 = .ok (.getfield 60, 3) := by decide +kernel
theorem dX9_hush_5 : decode cX9_hush 5 = .ok (.aload_n 0, 1) := by decide +kernel
theorem dX9_hush_6 : decode cX9_hush 6 = .ok (.getfield 14, 3) := by decide +kernel
theorem dX9_hush_9 : decode cX9_hush 9 = .ok (.invokevirtual 41, 3) := by decide +kernel
theorem dX9_hush_12 : decode cX9_hush 12 = .ok (.iadd, 1) := by decide +kernel
theorem dX9_hush_13 : decode cX9_hush 13 = .ok (.putfield 60, 3) := by decide +kernel
theorem dX9_hush_16 : decode cX9_hush 16 = .ok (.aload_n 0, 1) := by decide +kernel
theorem dX9_hush_17 : decode cX9_hush 17 = .ok (.getfield 14, 3) := by decide +kernel
theorem dX9_hush_20 : decode cX9_hush 20 = .ok (.invokevirtual 83, 3) := by decide +kernel
theorem dX9_hush_23 : decode cX9_hush 23 = .ok (.aload_n 0, 1) := by decide +kernel
theorem dX9_hush_24 : decode cX9_hush 24 = .ok (.invokevirtual 63, 3) := by decide +kernel
theorem dX9_hush_27 : decode cX9_hush 27 = .ok (.aload_n 0, 1) := by decide +kernel
theorem dX9_hush_28 : decode cX9_hush 28 = .ok (.invokevirtual 66, 3) := by decide +kernel
theorem dX9_hush_31 : decode cX9_hush 31 = .ok (.return_, 1) := by decide +kernel
theorem dX9_begin_0 : decode cX9_begin 0 = .ok (.aload_n 0, 1) := by decide +kernel
theorem dX9_begin_1 : decode cX9_begin 1 = .ok (.iconst 0, 1) := by decide +kernel
theorem dX9_begin_2 : decode cX9_begin 2 = .ok (.putfield 50, 3) := by decide +kernel
theorem dX9_begin_5 : decode cX9_begin 5 = .ok (.aload_n 0, 1) := by decide +kernel
theorem dX9_begin_6 : decode cX9_begin 6 = .ok (.getfield 20, 3) := by decide +kernel
theorem dX9_begin_9 : decode cX9_begin 9 = .ok (.invokevirtual 41, 3) := by decide +kernel
theorem dX9_begin_12 : decode cX9_begin 12 = .ok (.ifCond .le 22, 3) := by decide +kernel
theorem dX9_begin_15 : decode cX9_begin 15 = .ok (.aload_n 0, 1) := by decide +kernel
theorem dX9_begin_16 : decode cX9_begin 16 = .ok (.getfield 20, 3) := by decide +kernel
theorem dX9_begin_19 : decode cX9_begin 19 = .ok (.aload_n 0, 1) := by decide +kernel
theorem dX9_begin_20 : decode cX9_begin 20 = .ok (.getfield 30, 3) := by decide +kernel
theorem dX9_begin_23 : decode cX9_begin 23 = .ok (.invokevirtual 92, 3) := by decide +kernel
theorem dX9_begin_26 : decode cX9_begin 26 = .ok (.aload_n 0, 1) := by decide +kernel
theorem dX9_begin_27 : decode cX9_begin 27 = .ok (.iconst 2, 1) := by decide +kernel
theorem dX9_begin_28 : decode cX9_begin 28 = .ok (.putfield 33, 3) := by decide +kernel
theorem dX9_begin_31 : decode cX9_begin 31 = .ok (.goto 68, 3) := by decide +kernel
theorem dX9_begin_34 : decode cX9_begin 34 = .ok (.aload_n 0, 1) := by decide +kernel
theorem dX9_begin_35 : decode cX9_begin 35 = .ok (.getfield 45, 3) := by decide +kernel
theorem dX9_begin_38 : decode cX9_begin 38 = .ok (.ifCond .eq 35, 3) := by decide +kernel
theorem dX9_begin_41 : decode cX9_begin 41 = .ok (.aload_n 0, 1) := by decide +kernel
theorem dX9_begin_42 : decode cX9_begin 42 = .ok (.getfield 30, 3) := by decide +kernel
theorem dX9_begin_45 : decode cX9_begin 45 = .ok (.aload_n 0, 1) := by decide +kernel
theorem dX9_begin_46 : decode cX9_begin 46 = .ok (.getfield 26, 3) := by decide +kernel
theorem dX9_begin_49 : decode cX9_begin 49 = .ok (.invokevirtual 69, 3) := by decide +kernel
theorem dX9_begin_52 : decode cX9_begin 52 = .ok (.aload_n 0, 1) := by decide +kernel
theorem dX9_begin_53 : decode cX9_begin 53 = .ok (.aload_n 0, 1) := by decide +kernel
theorem dX9_begin_54 : decode cX9_begin 54 = .ok (.getfield 72, 3) := by decide +kernel
theorem dX9_begin_57 : decode cX9_begin 57 = .ok (.putfield 50, 3) := by decide +kernel
theorem dX9_begin_60 : decode cX9_begin 60 = .ok (.aload_n 0, 1) := by decide +kernel
theorem dX9_begin_61 : decode cX9_begin 61 = .ok (.iconst 0, 1) := by decide +kernel
theorem dX9_begin_62 : decode cX9_begin 62 = .ok (.putfield 45, 3) := by decide +kernel
theorem dX9_begin_65 : decode cX9_begin 65 = .ok (.aload_n 0, 1) := by decide +kernel
theorem dX9_begin_66 : decode cX9_begin 66 = .ok (.iconst 1, 1) := by decide +kernel
theorem dX9_begin_67 : decode cX9_begin 67 = .ok (.putfield 33, 3) := by decide +kernel
theorem dX9_begin_70 : decode cX9_begin 70 = .ok (.goto 29, 3) := by decide +kernel
theorem dX9_begin_73 : decode cX9_begin 73 = .ok (.aload_n 0, 1) := by decide +kernel
theorem dX9_begin_74 : decode cX9_begin 74 = .ok (.getfield 14, 3) := by decide +kernel
theorem dX9_begin_77 : decode cX9_begin 77 = .ok (.invokevirtual 41, 3) := by decide +kernel
theorem dX9_begin_80 : decode cX9_begin 80 = .ok (.ifCond .le 19, 3) := by decide +kernel
theorem dX9_begin_83 : decode cX9_begin 83 = .ok (.aload_n 0, 1) := by decide +kernel
theorem dX9_begin_84 : decode cX9_begin 84 = .ok (.getfield 14, 3) := by decide +kernel
theorem dX9_begin_87 : decode cX9_begin 87 = .ok (.aload_n 0, 1) := by decide +kernel
theorem dX9_begin_88 : decode cX9_begin 88 = .ok (.getfield 30, 3) := by decide +kernel
theorem dX9_begin_91 : decode cX9_begin 91 = .ok (.invokevirtual 92, 3) := by decide +kernel
theorem dX9_begin_94 : decode cX9_begin 94 = .ok (.aload_n 0, 1) := by decide +kernel
theorem dX9_begin_95 : decode cX9_begin 95 = .ok (.iconst 0, 1) := by decide +kernel
theorem dX9_begin_96 : decode cX9_begin 96 = .ok (.putfield 33, 3) := by decide +kernel
theorem dX9_begin_99 : decode cX9_begin 99 = .ok (.return_, 1) := by decide +kernel
theorem dX9_speak_0 : decode cX9_speak 0 = .ok (.aload_n 0, 1) := by decide +kernel
theorem dX9_speak_1 : decode cX9_speak 1 = .ok (.getfield 33, 3) := by decide +kernel
theorem dX9_speak_4 : decode cX9_speak 4 = .ok (.iconst (-1), 1) := by decide +kernel
theorem dX9_speak_5 : decode cX9_speak 5 = .ok (.if_icmp .ne 7, 3) := by decide +kernel
theorem dX9_speak_8 : decode cX9_speak 8 = .ok (.aload_n 0, 1) := by decide +kernel
theorem dX9_speak_9 : decode cX9_speak 9 = .ok (.invokevirtual 86, 3) := by decide +kernel
theorem dX9_speak_12 : decode cX9_speak 12 = .ok (.aload_n 0, 1) := by decide +kernel
theorem dX9_speak_13 : decode cX9_speak 13 = .ok (.getfield 33, 3) := by decide +kernel
theorem dX9_speak_16 : decode cX9_speak 16 = .ok (.iconst (-1), 1) := by decide +kernel
theorem dX9_speak_17 : decode cX9_speak 17 = .ok (.if_icmp .ne 4, 3) := by decide +kernel
theorem dX9_speak_20 : decode cX9_speak 20 = .ok (.return_, 1) := by decide +kernel
theorem dX9_speak_21 : decode cX9_speak 21 = .ok (.aload_n 0, 1) := by decide +kernel
theorem dX9_speak_22 : decode cX9_speak 22 = .ok (.getfield 89, 3) := by decide +kernel
theorem dX9_speak_25 : decode cX9_speak 25 = .ok (.bipush 100, 2) := by decide +kernel
theorem dX9_speak_27 : decode cX9_speak 27 = .ok (.irem, 1) := by decide +kernel
theorem dX9_speak_28 : decode cX9_speak 28 = .ok (.istore_n 1, 1) := by decide +kernel
theorem dX9_speak_29 : decode cX9_speak 29 = .ok (.iload_n 1, 1) := by decide +kernel
theorem dX9_speak_30 : decode cX9_speak 30 = .ok (.ifCond .lt 29, 3) := by decide +kernel
theorem dX9_speak_33 : decode cX9_speak 33 = .ok (.iload_n 1, 1) := by decide +kernel
theorem dX9_speak_34 : decode cX9_speak 34 = .ok (.aload_n 0, 1) := by decide +kernel
theorem dX9_speak_35 : decode cX9_speak 35 = .ok (.getfield 37, 3) := by decide +kernel
theorem dX9_speak_38 : decode cX9_speak 38 = .ok (.arraylength, 1) := by decide +kernel
theorem dX9_speak_39 : decode cX9_speak 39 = .ok (.if_icmp .ge 20, 3) := by decide +kernel
theorem dX9_speak_42 : decode cX9_speak 42 = .ok (.aload_n 0, 1) := by decide +kernel
theorem dX9_speak_43 : decode cX9_speak 43 = .ok (.getfield 37, 3) := by decide +kernel
theorem dX9_speak_46 : decode cX9_speak 46 = .ok (.iload_n 1, 1) := by decide +kernel
theorem dX9_speak_47 : decode cX9_speak 47 = .ok (.aload_n 0, 1) := by decide +kernel
theorem dX9_speak_48 : decode cX9_speak 48 = .ok (.getfield 30, 3) := by decide +kernel
theorem dX9_speak_51 : decode cX9_speak 51 = .ok (.aload_n 0, 1) := by decide +kernel
theorem dX9_speak_52 : decode cX9_speak 52 = .ok (.getfield 50, 3) := by decide +kernel
theorem dX9_speak_55 : decode cX9_speak 55 = .ok (.invokevirtual 79, 3) := by decide +kernel
theorem dX9_speak_58 : decode cX9_speak 58 = .ok (.iastore, 1) := by decide +kernel
theorem dX9_speak_59 : decode cX9_speak 59 = .ok (.aload_n 0, 1) := by decide +kernel
theorem dX9_speak_60 : decode cX9_speak 60 = .ok (.dup, 1) := by decide +kernel
theorem dX9_speak_61 : decode cX9_speak 61 = .ok (.getfield 89, 3) := by decide +kernel
theorem dX9_speak_64 : decode cX9_speak 64 = .ok (.iconst 1, 1) := by decide +kernel
theorem dX9_speak_65 : decode cX9_speak 65 = .ok (.iadd, 1) := by decide +kernel
theorem dX9_speak_66 : decode cX9_speak 66 = .ok (.putfield 89, 3) := by decide +kernel
theorem dX9_speak_69 : decode cX9_speak 69 = .ok (.aload_n 0, 1) := by decide +kernel
theorem dX9_speak_70 : decode cX9_speak 70 = .ok (.dup, 1) := by decide +kernel
theorem dX9_speak_71 : decode cX9_speak 71 = .ok (.getfield 50, 3) := by decide +kernel
theorem dX9_speak_74 : decode cX9_speak 74 = .ok (.iconst 1, 1) := by decide +kernel
theorem dX9_speak_75 : decode cX9_speak 75 = .ok (.iadd, 1) := by decide +kernel
theorem dX9_speak_76 : decode cX9_speak 76 = .ok (.putfield 50, 3) := by decide +kernel
theorem dX9_speak_79 : decode cX9_speak 79 = .ok (.aload_n 0, 1) := by decide +kernel
theorem dX9_speak_80 : decode cX9_speak 80 = .ok (.getfield 50, 3) := by decide +kernel
theorem dX9_speak_83 : decode cX9_speak 83 = .ok (.aload_n 0, 1) := by decide +kernel
theorem dX9_speak_84 : decode cX9_speak 84 = .ok (.getfield 30, 3) := by decide +kernel
theorem dX9_speak_87 : decode cX9_speak 87 = .ok (.invokevirtual 49, 3) := by decide +kernel
theorem dX9_speak_90 : decode cX9_speak 90 = .ok (.if_icmp .lt 8, 3) := by decide +kernel
theorem dX9_speak_93 : decode cX9_speak 93 = .ok (.aload_n 0, 1) := by decide +kernel
theorem dX9_speak_94 : decode cX9_speak 94 = .ok (.iconst (-1), 1) := by decide +kernel
theorem dX9_speak_95 : decode cX9_speak 95 = .ok (.putfield 33, 3) := by decide +kernel
theorem dX9_speak_98 : decode cX9_speak 98 = .ok (.return_, 1) := by decide +kernel
theorem dX7_init_0 : decode cX7_init 0 = .ok (.aload_n 0, 1) := by decide +kernel
theorem dX7_init_1 : decode cX7_init 1 = .ok (.invokespecial 3, 3) := by decide +kernel
theorem dX7_init_4 : decode cX7_init 4 = .ok (.aload_n 0, 1) := by decide +kernel
theorem dX7_init_5 : decode cX7_init 5 = .ok (.new 9, 3) := by decide +kernel
theorem dX7_init_8 : decode cX7_init 8 = .ok (.dup, 1) := by decide +kernel
theorem dX7_init_9 : decode cX7_init 9 = .ok (.iconst 0, 1) := by decide +kernel
theorem dX7_init_10 : decode cX7_init 10 = .ok (.iconst 0, 1) := by decide +kernel
theorem dX7_init_11 : decode cX7_init 11 = .ok (.aconst_null, 1) := by decide +kernel
theorem dX7_init_12 : decode cX7_init 12 = .ok (.invokespecial 11, 3) := by decide +kernel
theorem dX7_init_15 : decode cX7_init 15 = .ok (.putfield 14, 3) := by decide +kernel
theorem dX7_init_18 : decode cX7_init 18 = .ok (.aload_n 0, 1) := by decide +kernel
theorem dX7_init_19 : decode cX7_init 19 = .ok (.bipush 40, 2) := by decide +kernel
theorem dX7_init_21 : decode cX7_init 21 = .ok (.anewarray 9, 3) := by decide +kernel
theorem dX7_init_24 : decode cX7_init 24 = .ok (.putfield 20, 3) := by decide +kernel
theorem dX7_init_27 : decode cX7_init 27 = .ok (.aload_n 0, 1) := by decide +kernel
theorem dX7_init_28 : decode cX7_init 28 = .ok (.getfield 20, 3) := by decide +kernel
theorem dX7_init_31 : decode cX7_init 31 = .ok (.iconst 0, 1) := by decide +kernel
theorem dX7_init_32 : decode cX7_init 32 = .ok (.aload_n 0, 1) := by decide +kernel
theorem dX7_init_33 : decode cX7_init 33 = .ok (.getfield 14, 3) := by decide +kernel
theorem dX7_init_36 : decode cX7_init 36 = .ok (.aastore, 1) := by decide +kernel
theorem dX7_init_37 : decode cX7_init 37 = .ok (.aload_n 0, 1) := by decide +kernel
theorem dX7_init_38 : decode cX7_init 38 = .ok (.iconst 1, 1) := by decide +kernel
theorem dX7_init_39 : decode cX7_init 39 = .ok (.putfield 24, 3) := by decide +kernel
theorem dX7_init_42 : decode cX7_init 42 = .ok (.aload_n 0, 1) := by decide +kernel
theorem dX7_init_43 : decode cX7_init 43 = .ok (.iconst 1, 1) := by decide +kernel
theorem dX7_init_44 : decode cX7_init 44 = .ok (.putfield 28, 3) := by decide +kernel
theorem dX7_init_47 : decode cX7_init 47 = .ok (.aload_n 0, 1) := by decide +kernel
theorem dX7_init_48 : decode cX7_init 48 = .ok (.bipush 40, 2) := by decide +kernel
theorem dX7_init_50 : decode cX7_init 50 = .ok (.anewarray 9, 3) := by decide +kernel
theorem dX7_init_53 : decode cX7_init 53 = .ok (.putfield 31, 3) := by decide +kernel
theorem dX7_init_56 : decode cX7_init 56 = .ok (.aload_n 0, 1) := by decide +kernel
theorem dX7_init_57 : decode cX7_init 57 = .ok (.getfield 31, 3) := by decide +kernel
theorem dX7_init_60 : decode cX7_init 60 = .ok (.iconst 0, 1) := by decide +kernel
theorem dX7_init_61 : decode cX7_init 61 = .ok (.aload_n 0, 1) := by decide +kernel
theorem dX7_init_62 : decode cX7_init 62 = .ok (.getfield 14, 3) := by decide +kernel
theorem dX7_init_65 : decode cX7_init 65 = .ok (.aastore, 1) := by decide +kernel
theorem dX7_init_66 : decode cX7_init 66 = .ok (.aload_n 0, 1) := by decide +kernel
theorem dX7_init_67 : decode cX7_init 67 = .ok (.iconst 1, 1) := by decide +kernel
theorem dX7_init_68 : decode cX7_init 68 = .ok (.putfield 34, 3) := by decide +kernel
theorem dX7_init_71 : decode cX7_init 71 = .ok (.return_, 1) := by decide +kernel
theorem dX7_hasRoom_0 : decode cX7_hasRoom 0 = .ok (.aload_n 0, 1) := by decide +kernel
theorem dX7_hasRoom_1 : decode cX7_hasRoom 1 = .ok (.getfield 24, 3) := by decide +kernel
theorem dX7_hasRoom_4 : decode cX7_hasRoom 4 = .ok (.bipush 40, 2) := by decide +kernel
theorem dX7_hasRoom_6 : decode cX7_hasRoom 6 = .ok (.if_icmp .ge 7, 3) := by decide +kernel
theorem dX7_hasRoom_9 : decode cX7_hasRoom 9 = .ok (.iconst 1, 1) := by decide +kernel
theorem dX7_hasRoom_10 : decode cX7_hasRoom 10 = .ok (.goto 4, 3) := by decide +kernel
theorem dX7_hasRoom_13 : decode cX7_hasRoom 13 = .ok (.iconst 0, 1) := by decide +kernel
theorem dX7_hasRoom_14 : decode cX7_hasRoom 14 = .ok (.ireturn, 1) := by decide +kernel
theorem dX7_find_0 : decode cX7_find 0 = .ok (.iload_n 1, 1) := by decide +kernel
theorem dX7_find_1 : decode cX7_find 1 = .ok (.ifCond .lt 21, 3) := by decide +kernel
theorem dX7_find_4 : decode cX7_find 4 = .ok (.iload_n 1, 1) := by decide +kernel
theorem dX7_find_5 : decode cX7_find 5 = .ok (.aload_n 0, 1) := by decide +kernel
theorem dX7_find_6 : decode cX7_find 6 = .ok (.getfield 20, 3) := by decide +kernel
theorem dX7_find_9 : decode cX7_find 9 = .ok (.arraylength, 1) := by decide +kernel
theorem dX7_find_10 : decode cX7_find 10 = .ok (.if_icmp .ge 12, 3) := by decide +kernel
theorem dX7_find_13 : decode cX7_find 13 = .ok (.aload_n 0, 1) := by decide +kernel
theorem dX7_find_14 : decode cX7_find 14 = .ok (.getfield 20, 3) := by decide +kernel
theorem dX7_find_17 : decode cX7_find 17 = .ok (.iload_n 1, 1) := by decide +kernel
theorem dX7_find_18 : decode cX7_find 18 = .ok (.aaload, 1) := by decide +kernel
theorem dX7_find_19 : decode cX7_find 19 = .ok (.goto 4, 3) := by decide +kernel
theorem dX7_find_22 : decode cX7_find 22 = .ok (.aconst_null, 1) := by decide +kernel
theorem dX7_find_23 : decode cX7_find 23 = .ok (.areturn, 1) := by decide +kernel
theorem dX7_inOrder_0 : decode cX7_inOrder 0 = .ok (.iload_n 1, 1) := by decide +kernel
theorem dX7_inOrder_1 : decode cX7_inOrder 1 = .ok (.ifCond .lt 29, 3) := by decide +kernel
theorem dX7_inOrder_4 : decode cX7_inOrder 4 = .ok (.iload_n 1, 1) := by decide +kernel
theorem dX7_inOrder_5 : decode cX7_inOrder 5 = .ok (.aload_n 0, 1) := by decide +kernel
theorem dX7_inOrder_6 : decode cX7_inOrder 6 = .ok (.getfield 34, 3) := by decide +kernel
theorem dX7_inOrder_9 : decode cX7_inOrder 9 = .ok (.if_icmp .ge 21, 3) := by decide +kernel
theorem dX7_inOrder_12 : decode cX7_inOrder 12 = .ok (.iload_n 1, 1) := by decide +kernel
theorem dX7_inOrder_13 : decode cX7_inOrder 13 = .ok (.aload_n 0, 1) := by decide +kernel
theorem dX7_inOrder_14 : decode cX7_inOrder 14 = .ok (.getfield 31, 3) := by decide +kernel
theorem dX7_inOrder_17 : decode cX7_inOrder 17 = .ok (.arraylength, 1) := by decide +kernel
theorem dX7_inOrder_18 : decode cX7_inOrder 18 = .ok (.if_icmp .ge 12, 3) := by decide +kernel
theorem dX7_inOrder_21 : decode cX7_inOrder 21 = .ok (.aload_n 0, 1) := by decide +kernel
theorem dX7_inOrder_22 : decode cX7_inOrder 22 = .ok (.getfield 31, 3) := by decide +kernel
theorem dX7_inOrder_25 : decode cX7_inOrder 25 = .ok (.iload_n 1, 1) := by decide +kernel
theorem dX7_inOrder_26 : decode cX7_inOrder 26 = .ok (.aaload, 1) := by decide +kernel
theorem dX7_inOrder_27 : decode cX7_inOrder 27 = .ok (.goto 4, 3) := by decide +kernel
theorem dX7_inOrder_30 : decode cX7_inOrder 30 = .ok (.aconst_null, 1) := by decide +kernel
theorem dX7_inOrder_31 : decode cX7_inOrder 31 = .ok (.areturn, 1) := by decide +kernel
abbrev mX9_comeAnswer : gM := (yX9_comeAnswer, cX9_comeAnswer, 2, (Option.none : Option FieldType), [])
theorem caX9_comeAnswer : cal mX9_comeAnswer 1 := ⟨xw 604 (by decide +kernel) rfl, xw 33 (by decide +kernel) rfl, by decide, by decide +kernel⟩
theorem cvX9_comeAnswer : calV mX9_comeAnswer := ⟨xw 602 (by decide +kernel) rfl, xw 603 (by decide +kernel) rfl⟩
abbrev mX9_wordStart : gM := (yX9_wordStart, cX9_wordStart, 3, (Option.some FieldType.int), [])
theorem caX9_wordStart : cal mX9_wordStart 2 := ⟨xw 1034 (by decide +kernel) rfl, xw 33 (by decide +kernel) rfl, by decide, by decide +kernel⟩
theorem csX9_wordStart : Cond.static yX9_wordStart ∈ XW := xw 1033 (by decide +kernel) rfl
abbrev mX9_comeAlert : gM := (yX9_comeAlert, cX9_comeAlert, 2, (Option.none : Option FieldType), [])
theorem caX9_comeAlert : cal mX9_comeAlert 1 := ⟨xw 1031 (by decide +kernel) rfl, xw 33 (by decide +kernel) rfl, by decide, by decide +kernel⟩
theorem cvX9_comeAlert : calV mX9_comeAlert := ⟨xw 1029 (by decide +kernel) rfl, xw 1030 (by decide +kernel) rfl⟩
abbrev mX9_hush : gM := (yX9_hush, cX9_hush, 1, (Option.none : Option FieldType), [])
theorem caX9_hush : cal mX9_hush 0 := ⟨xw 717 (by decide +kernel) rfl, xw 33 (by decide +kernel) rfl, by decide, by decide +kernel⟩
theorem cvX9_hush : calV mX9_hush := ⟨xw 715 (by decide +kernel) rfl, xw 716 (by decide +kernel) rfl⟩
abbrev mX9_begin : gM := (yX9_begin, cX9_begin, 1, (Option.none : Option FieldType), [])
theorem caX9_begin : cal mX9_begin 0 := ⟨xw 848 (by decide +kernel) rfl, xw 33 (by decide +kernel) rfl, by decide, by decide +kernel⟩
theorem cvX9_begin : calV mX9_begin := ⟨xw 847 (by decide +kernel) rfl, xw 22 (by decide +kernel) rfl⟩
abbrev mX9_speak : gM := (yX9_speak, cX9_speak, 2, (Option.none : Option FieldType), [])
theorem caX9_speak : cal mX9_speak 0 := ⟨xw 844 (by decide +kernel) rfl, xw 33 (by decide +kernel) rfl, by decide, by decide +kernel⟩
theorem cvX9_speak : calV mX9_speak := ⟨xw 842 (by decide +kernel) rfl, xw 843 (by decide +kernel) rfl⟩
abbrev mX7_init : gM := (yX7_init, cX7_init, 1, (Option.none : Option FieldType), [])
theorem caX7_init : cal mX7_init 0 := ⟨xw 62 (by decide +kernel) rfl, xw 30 (by decide +kernel) rfl, by decide, by decide +kernel⟩
theorem ciX7_init : Cond.instanceMethod yX7_init ∈ XW := xw 61 (by decide +kernel) rfl
abbrev mX7_hasRoom : gM := (yX7_hasRoom, cX7_hasRoom, 1, (Option.some FieldType.boolean), [])
theorem caX7_hasRoom : cal mX7_hasRoom 0 := ⟨xw 985 (by decide +kernel) rfl, xw 30 (by decide +kernel) rfl, by decide, by decide +kernel⟩
theorem cvX7_hasRoom : calV mX7_hasRoom := ⟨xw 983 (by decide +kernel) rfl, xw 984 (by decide +kernel) rfl⟩
abbrev mX7_find : gM := (yX7_find, cX7_find, 2, (Option.some (FieldType.object "BrailleDesk$Element")), [])
theorem caX7_find : cal mX7_find 1 := ⟨xw 805 (by decide +kernel) rfl, xw 30 (by decide +kernel) rfl, by decide, by decide +kernel⟩
theorem cvX7_find : calV mX7_find := ⟨xw 803 (by decide +kernel) rfl, xw 804 (by decide +kernel) rfl⟩
abbrev mX7_inOrder : gM := (yX7_inOrder, cX7_inOrder, 2, (Option.some (FieldType.object "BrailleDesk$Element")), [])
theorem caX7_inOrder : cal mX7_inOrder 1 := ⟨xw 574 (by decide +kernel) rfl, xw 30 (by decide +kernel) rfl, by decide, by decide +kernel⟩
theorem cvX7_inOrder : calV mX7_inOrder := ⟨xw 572 (by decide +kernel) rfl, xw 573 (by decide +kernel) rfl⟩
theorem lkX9_63 : Cond.methodLink RX9 63 yX9_dropAnswerThatWaits ∈ XW := xw 606 (by decide +kernel) rfl
theorem lkX9_66 : Cond.methodLink RX9 66 yX9_dropSpokenBelowAlert ∈ XW := xw 610 (by decide +kernel) rfl
theorem lkX9_69 : Cond.methodLink RX9 69 yX1_copy ∈ XW := xw 614 (by decide +kernel) rfl
theorem flX9_72 : fl RX9 72 8 3 := ⟨by decide, by decide, xw 207 (by decide +kernel) rfl⟩
theorem lkX9_79 : Cond.methodLink RX9 79 yX1_at ∈ XW := xw 854 (by decide +kernel) rfl
theorem flX9_50 : fl RX9 50 8 6 := ⟨by decide, by decide, xw 210 (by decide +kernel) rfl⟩
theorem lkX9_75 : Cond.methodLink RX9 75 yX9_wordStart ∈ XW := xw 1032 (by decide +kernel) rfl
theorem lkX9_83 : Cond.methodLink RX9 83 yX4_clear ∈ XW := xw 722 (by decide +kernel) rfl
theorem lkX9_92 : Cond.methodLink RX9 92 yX4_moveFirst ∈ XW := xw 849 (by decide +kernel) rfl
theorem lkX9_86 : Cond.methodLink RX9 86 yX9_begin ∈ XW := xw 845 (by decide +kernel) rfl
theorem flX9_89 : fl RX9 89 8 9 := ⟨by decide, by decide, xw 213 (by decide +kernel) rfl⟩
theorem lkX7_3 : Cond.methodLink RX7 3 objectInit ∈ XW := xw 63 (by decide +kernel) rfl
theorem ccX7_9 : Cond.classLink RX7 9 (hk_C 1) ∈ XW := xw 64 (by decide +kernel) rfl
theorem ins_1 : Cond.instantiable (hk_C 1) (hk_N 1) ∈ XW := xw 65 (by decide +kernel) rfl
theorem ini_1 : Cond.initialized (hk_C 1) ∈ XW := xw 31 (by decide +kernel) rfl
theorem lkX7_11 : Cond.methodLink RX7 11 yX2_init ∈ XW := xw 66 (by decide +kernel) rfl
theorem flX7_14 : fl RX7 14 6 0 := ⟨by decide, by decide, xw 158 (by decide +kernel) rfl⟩
theorem flX7_20 : fl RX7 20 6 1 := ⟨by decide, by decide, xw 160 (by decide +kernel) rfl⟩
theorem flX7_24 : fl RX7 24 6 2 := ⟨by decide, by decide, xw 161 (by decide +kernel) rfl⟩
theorem flX7_28 : fl RX7 28 6 3 := ⟨by decide, by decide, xw 162 (by decide +kernel) rfl⟩
theorem flX7_31 : fl RX7 31 6 4 := ⟨by decide, by decide, xw 164 (by decide +kernel) rfl⟩
theorem flX7_34 : fl RX7 34 6 5 := ⟨by decide, by decide, xw 165 (by decide +kernel) rfl⟩
theorem pl_X7 : plainName RX7 = true := by decide +kernel
/-! BrailleDesk$Voice.comeAnswer -/
theorem tX9_comeAnswer {G : gG} (a0 : Nat) (a1 : (Option Nat)) (h : hp) (Q : hQ) (hF : okB (fX9_comeAnswer a0 a1 h) (pH gU Q)) : gS G mX9_comeAnswer 1 0 0 [sr (some a0), sr a1] h Q := by
  delta fX9_comeAnswer at hF
  refine gS_at [some (sr (some a0)), some (sr a1)] pl_X9 rfl (Nat.le_of_ble_eq_true rfl) rfl ?_
  refine v_aload_n (pc := 0) (i := 1) dX9_comeAnswer_0 rfl rfl ?_
  refine cp_V (pc := 1) gI (as := []) (st := []) (ci := 0) (N := mX1_size) (k := 0) (n := 0) (k1 := 0) (n1 := 0) dX9_comeAnswer_1 lkX9_49 caX1_size cvX1_size rfl (by decide) rfl (fun b Q1 hq => tX1_size b h Q1 hq) ⟨by decide, by decide⟩ (Nat.le_of_ble_eq_true rfl) rfl hF (fun x1 hF => ?_)
  show gV G mX9_comeAnswer 1 Q 4 [some (sr (some a0)), some (sr a1)] [si x1] (0) (0) h
  refine v_if_ne (pc := 4) 8 dX9_comeAnswer_4 rfl (fun hc => ?_) (fun hc => ?_)
  · replace hF := (okB_if hF).2 hc
    refine v_aload_n (pc := 8) (i := 0) dX9_comeAnswer_8 rfl rfl ?_
    refine ch_V (pc := 9) gU (as := []) (st := []) (ci := 8) (N := mX9_dropAnswerThatWaits) (k := 0) (n := 0) (k1 := 0) (n1 := 0) dX9_comeAnswer_9 lkX9_63 caX9_dropAnswerThatWaits cvX9_dropAnswerThatWaits rfl (by decide) rfl (fun b Q1 hq => tX9_dropAnswerThatWaits b h Q1 hq) ⟨by decide, by decide⟩ (Nat.le_of_ble_eq_true rfl) rfl hF (fun x2 h3 hF => ?_)
    show gV G mX9_comeAnswer 1 Q 12 [some (sr (some a0)), some (sr a1)] [] (0) (0) h3
    refine v_aload_n (pc := 12) (i := 0) dX9_comeAnswer_12 rfl rfl ?_
    refine ch_V (pc := 13) gU (as := []) (st := []) (ci := 8) (N := mX9_dropSpokenBelowAlert) (k := 0) (n := 0) (k1 := 0) (n1 := 0) dX9_comeAnswer_13 lkX9_66 caX9_dropSpokenBelowAlert cvX9_dropSpokenBelowAlert rfl (by decide) rfl (fun b Q1 hq => tX9_dropSpokenBelowAlert b h3 Q1 hq) ⟨by decide, by decide⟩ (Nat.le_of_ble_eq_true rfl) rfl hF (fun x4 h5 hF => ?_)
    show gV G mX9_comeAnswer 1 Q 16 [some (sr (some a0)), some (sr a1)] [] (0) (0) h5
    refine v_aload_n (pc := 16) (i := 0) dX9_comeAnswer_16 rfl rfl ?_
    refine s_getR (pc := 17) dX9_comeAnswer_17 flX9_26 rfl hF (fun x6 hF => ?_)
    refine v_aload_n (pc := 20) (i := 1) dX9_comeAnswer_20 rfl rfl ?_
    refine ch_V (pc := 21) gU (as := [sr a1]) (st := []) (ci := 0) (N := mX1_copy) (k := 0) (n := 0) (k1 := 0) (n1 := 0) dX9_comeAnswer_21 lkX9_69 caX1_copy cvX1_copy rfl (by decide) rfl (fun b Q1 hq => tX1_copy b a1 h5 Q1 hq) ⟨by decide, by decide⟩ (Nat.le_of_ble_eq_true rfl) rfl hF (fun x7 h8 hF => ?_)
    show gV G mX9_comeAnswer 1 Q 24 [some (sr (some a0)), some (sr a1)] [] (0) (0) h8
    refine v_aload_n (pc := 24) (i := 0) dX9_comeAnswer_24 rfl rfl ?_
    refine v_iconst (pc := 25) (v := (0 : Int32)) dX9_comeAnswer_25 rfl ?_
    refine s_putI (pc := 26) dX9_comeAnswer_26 flX9_72 (Or.inl rfl) rfl hF (fun h9 hF => ?_)
    refine v_aload_n (pc := 29) (i := 0) dX9_comeAnswer_29 rfl rfl ?_
    refine v_iconst (pc := 30) (v := (1 : Int32)) dX9_comeAnswer_30 rfl ?_
    refine s_putZ (pc := 31) dX9_comeAnswer_31 flX9_45 (Or.inl rfl) rfl hF (fun h10 hF => ?_)
    exact v_ret (pc := 34) dX9_comeAnswer_34 rfl (okr hF fun q => q)
  replace hF := (okB_if hF).1 hc
  exact v_ret (pc := 7) dX9_comeAnswer_7 rfl (okr hF fun q => q)
/-! BrailleDesk$Voice.wordStart -/
theorem lX9_wordStart_2 {G : gG} {Q : hQ} {P : Int32 → Prop} {k n : Nat} (c0 : (Option Nat)) (c1 : Int32) (h : hp) (hJ : ∀ q : Int32, P q → gV G mX9_wordStart 1 Q 34 [none, none, some (si q)] [] (k) (n) h) : ∀ (fu : Nat) (a : Int32), okB (itr (fX9_wordStart_B2 c0 c1 h) fu a) P → gV G mX9_wordStart 1 Q 2 [some (sr c0), some (si c1), some (si a)] [] (k) (n) h :=
  lpg (X := fun (a : Int32) => gV G mX9_wordStart 1 Q 2 [some (sr c0), some (si c1), some (si a)] [] (k) (n) h) (fun a P2 hL hE hF => by
    delta fX9_wordStart_B2 at hF
    refine v_iload_n (pc := 2) (i := 2) dX9_wordStart_2 rfl rfl ?_
    refine v_if_le (pc := 3) 34 dX9_wordStart_3 rfl (fun hc => ?_) (fun hc => ?_)
    · replace hF := (okB_if hF).1 hc
      exact v_lle [none, none, some (si a)] ⟨rfl, trivial⟩ (hJ a (hE _ (okB_some hF)))
    replace hF := (okB_if hF).2 hc
    refine v_aload_n (pc := 6) (i := 0) dX9_wordStart_6 rfl rfl ?_
    refine v_iload_n (pc := 7) (i := 1) dX9_wordStart_7 rfl rfl ?_
    refine cp_V (pc := 8) gI (as := [si c1]) (st := []) (ci := 0) (N := mX1_at) (k := k) (n := n) (k1 := 0) (n1 := 0) dX9_wordStart_8 lkX9_79 caX1_at cvX1_at rfl (by decide) rfl (fun b Q1 hq => tX1_at b c1 h Q1 hq) ⟨by decide, by decide⟩ (Nat.le_of_ble_eq_true rfl) rfl hF (fun x1 hF => ?_)
    show gV G mX9_wordStart 1 Q 11 [some (sr c0), some (si c1), some (si a)] [si x1] (k) (n) h
    refine v_bipush (pc := 11) (v := (32 : Int32)) dX9_wordStart_11 rfl ?_
    refine v_icmp_eq (pc := 13) 34 dX9_wordStart_13 rfl (fun hc => ?_) (fun hc => ?_)
    · replace hF := (okB_if hF).1 hc
      exact v_lle [none, none, some (si a)] ⟨rfl, trivial⟩ (hJ a (hE _ (okB_some hF)))
    replace hF := (okB_if hF).2 hc
    refine v_aload_n (pc := 16) (i := 0) dX9_wordStart_16 rfl rfl ?_
    refine v_iload_n (pc := 17) (i := 2) dX9_wordStart_17 rfl rfl ?_
    refine v_iconst (pc := 18) (v := (1 : Int32)) dX9_wordStart_18 rfl ?_
    refine v_isub (pc := 19) dX9_wordStart_19 ?_
    refine cp_V (pc := 20) gI (as := [si (a - (1 : Int32))]) (st := []) (ci := 0) (N := mX1_at) (k := k) (n := n) (k1 := 0) (n1 := 0) dX9_wordStart_20 lkX9_79 caX1_at cvX1_at rfl (by decide) rfl (fun b Q1 hq => tX1_at b (a - (1 : Int32)) h Q1 hq) ⟨by decide, by decide⟩ (Nat.le_of_ble_eq_true rfl) rfl hF (fun x2 hF => ?_)
    show gV G mX9_wordStart 1 Q 23 [some (sr c0), some (si c1), some (si a)] [si x2] (k) (n) h
    refine v_bipush (pc := 23) (v := (32 : Int32)) dX9_wordStart_23 rfl ?_
    refine v_icmp_eq (pc := 25) 34 dX9_wordStart_25 rfl (fun hc => ?_) (fun hc => ?_)
    · replace hF := (okB_if hF).1 hc
      exact v_lle [none, none, some (si a)] ⟨rfl, trivial⟩ (hJ a (hE _ (okB_some hF)))
    replace hF := (okB_if hF).2 hc
    refine v_iinc (pc := 28) (i := 2) (a + (-1 : Int32)) [some (sr c0), some (si c1), some (si (a + (-1 : Int32)))] dX9_wordStart_28 rfl rfl rfl rfl ?_
    refine v_goto (pc := 31) 2 dX9_wordStart_31 rfl ?_
    exact v_lle [some (sr c0), some (si c1), some (si (a + (-1 : Int32)))] ⟨rfl, rfl, rfl, trivial⟩ (hL (a + (-1 : Int32)) (okB_some hF)))
theorem tX9_wordStart {G : gG} (a0 : (Option Nat)) (a1 : Int32) (h : hp) (Q : hQ) (hF : okB (fX9_wordStart a0 a1 h) (pP gI Q h)) : gS G mX9_wordStart 1 0 0 [sr a0, si a1] h Q := by
  delta fX9_wordStart at hF
  refine gS_at [some (sr a0), some (si a1), none] pl_X9 rfl (Nat.le_of_ble_eq_true rfl) rfl ?_
  refine v_iload_n (pc := 0) (i := 1) dX9_wordStart_0 rfl rfl ?_
  refine v_istore_n (pc := 1) (i := 2) [some (sr a0), some (si a1), some (si a1)] dX9_wordStart_1 rfl (by decide) rfl rfl ?_
  refine mg (X := fun q1 => gV G mX9_wordStart 1 Q 34 [none, none, some (si q1)] [] (0) (0) h) hF (fun _ hj2 hF => v_lle [some (sr a0), some (si a1), some (si a1)] ⟨rfl, rfl, rfl, trivial⟩ (lX9_wordStart_2 a0 a1 h hj2 FU a1 hF)) (fun q1 hF => ?_)
  refine v_iload_n (pc := 34) (i := 2) dX9_wordStart_34 rfl rfl ?_
  exact v_iret (pc := 35) dX9_wordStart_35 rfl rfl (okr hF fun q => q)
/-! BrailleDesk$Voice.comeAlert -/
theorem tX9_comeAlert {G : gG} (a0 : Nat) (a1 : (Option Nat)) (h : hp) (Q : hQ) (hF : okB (fX9_comeAlert a0 a1 h) (pH gU Q)) : gS G mX9_comeAlert 2 0 0 [sr (some a0), sr a1] h Q := by
  delta fX9_comeAlert at hF
  refine gS_at [some (sr (some a0)), some (sr a1)] pl_X9 rfl (Nat.le_of_ble_eq_true rfl) rfl ?_
  refine v_aload_n (pc := 0) (i := 1) dX9_comeAlert_0 rfl rfl ?_
  refine cp_V (pc := 1) gI (as := []) (st := []) (ci := 0) (N := mX1_size) (k := 0) (n := 0) (k1 := 0) (n1 := 0) dX9_comeAlert_1 lkX9_49 caX1_size cvX1_size rfl (by decide) rfl (fun b Q1 hq => tX1_size b h Q1 hq) ⟨by decide, by decide⟩ (Nat.le_of_ble_eq_true rfl) rfl hF (fun x1 hF => ?_)
  show gV G mX9_comeAlert 2 Q 4 [some (sr (some a0)), some (sr a1)] [si x1] (0) (0) h
  refine v_if_ne (pc := 4) 8 dX9_comeAlert_4 rfl (fun hc => ?_) (fun hc => ?_)
  · replace hF := (okB_if hF).2 hc
    refine v_aload_n (pc := 8) (i := 0) dX9_comeAlert_8 rfl rfl ?_
    refine s_getR (pc := 9) dX9_comeAlert_9 flX9_20 rfl hF (fun x2 hF => ?_)
    refine v_aload_n (pc := 12) (i := 1) dX9_comeAlert_12 rfl rfl ?_
    refine ch_V (pc := 13) gU (as := [sr a1]) (st := []) (ci := 3) (N := mX4_put) (k := 0) (n := 0) (k1 := 0) (n1 := 0) dX9_comeAlert_13 lkX9_53 caX4_put cvX4_put rfl (by decide) rfl (fun b Q1 hq => tX4_put b a1 h Q1 hq) ⟨by decide, by decide⟩ (Nat.le_of_ble_eq_true rfl) rfl hF (fun x3 h4 hF => ?_)
    show gV G mX9_comeAlert 2 Q 16 [some (sr (some a0)), some (sr a1)] [] (0) (0) h4
    refine v_aload_n (pc := 16) (i := 0) dX9_comeAlert_16 rfl rfl ?_
    refine s_getI (pc := 17) dX9_comeAlert_17 flX9_33 rfl hF (fun x5 hF => ?_)
    refine v_if_ne (pc := 20) 30 dX9_comeAlert_20 rfl (fun hc => ?_) (fun hc => ?_)
    · replace hF := (okB_if hF).2 hc
      refine v_aload_n (pc := 30) (i := 0) dX9_comeAlert_30 rfl rfl ?_
      refine s_getI (pc := 31) dX9_comeAlert_31 flX9_33 rfl hF (fun x6 hF => ?_)
      refine v_iconst (pc := 34) (v := (1 : Int32)) dX9_comeAlert_34 rfl ?_
      refine v_icmp_ne (pc := 35) 74 dX9_comeAlert_35 rfl (fun hc => ?_) (fun hc => ?_)
      · replace hF := (okB_if hF).2 hc
        exact v_ret (pc := 74) dX9_comeAlert_74 rfl (okr hF fun q => q)
      replace hF := (okB_if hF).1 hc
      refine v_aload_n (pc := 38) (i := 0) dX9_comeAlert_38 rfl rfl ?_
      refine s_getR (pc := 39) dX9_comeAlert_39 flX9_26 rfl hF (fun x7 hF => ?_)
      refine v_aload_n (pc := 42) (i := 0) dX9_comeAlert_42 rfl rfl ?_
      refine s_getR (pc := 43) dX9_comeAlert_43 flX9_30 rfl hF (fun x8 hF => ?_)
      refine ch_V (pc := 46) gU (as := [sr x8]) (st := []) (ci := 0) (N := mX1_copy) (k := 0) (n := 0) (k1 := 0) (n1 := 0) dX9_comeAlert_46 lkX9_69 caX1_copy cvX1_copy rfl (by decide) rfl (fun b Q1 hq => tX1_copy b x8 h4 Q1 hq) ⟨by decide, by decide⟩ (Nat.le_of_ble_eq_true rfl) rfl hF (fun x9 h10 hF => ?_)
      show gV G mX9_comeAlert 2 Q 49 [some (sr (some a0)), some (sr a1)] [] (0) (0) h10
      refine v_aload_n (pc := 49) (i := 0) dX9_comeAlert_49 rfl rfl ?_
      refine v_aload_n (pc := 50) (i := 0) dX9_comeAlert_50 rfl rfl ?_
      refine s_getR (pc := 51) dX9_comeAlert_51 flX9_30 rfl hF (fun x11 hF => ?_)
      refine v_aload_n (pc := 54) (i := 0) dX9_comeAlert_54 rfl rfl ?_
      refine s_getI (pc := 55) dX9_comeAlert_55 flX9_50 rfl hF (fun x12 hF => ?_)
      refine cp_S (pc := 58) gI (as := [sr x11, si x12]) (st := [sr (some a0)]) (N := mX9_wordStart) (k := 0) (n := 0) (k1 := 0) (n1 := 0) dX9_comeAlert_58 lkX9_75 caX9_wordStart csX9_wordStart rfl (fun Q1 hq => tX9_wordStart x11 x12 h10 Q1 hq) ⟨by decide, by decide⟩ (Nat.le_of_ble_eq_true rfl) rfl hF (fun x13 hF => ?_)
      show gV G mX9_comeAlert 2 Q 61 [some (sr (some a0)), some (sr a1)] [si x13, sr (some a0)] (0) (0) h10
      refine s_putI (pc := 61) dX9_comeAlert_61 flX9_72 (Or.inl rfl) rfl hF (fun h14 hF => ?_)
      refine v_aload_n (pc := 64) (i := 0) dX9_comeAlert_64 rfl rfl ?_
      refine v_iconst (pc := 65) (v := (1 : Int32)) dX9_comeAlert_65 rfl ?_
      refine s_putZ (pc := 66) dX9_comeAlert_66 flX9_45 (Or.inl rfl) rfl hF (fun h15 hF => ?_)
      refine v_aload_n (pc := 69) (i := 0) dX9_comeAlert_69 rfl rfl ?_
      refine v_iconst (pc := 70) (v := (-1 : Int32)) dX9_comeAlert_70 rfl ?_
      refine s_putI (pc := 71) dX9_comeAlert_71 flX9_33 (Or.inl rfl) rfl hF (fun h16 hF => ?_)
      exact v_ret (pc := 74) dX9_comeAlert_74 rfl (okr hF fun q => q)
    replace hF := (okB_if hF).1 hc
    refine v_aload_n (pc := 23) (i := 0) dX9_comeAlert_23 rfl rfl ?_
    refine ch_V (pc := 24) gU (as := []) (st := []) (ci := 8) (N := mX9_dropSpokenBelowAlert) (k := 0) (n := 0) (k1 := 0) (n1 := 0) dX9_comeAlert_24 lkX9_66 caX9_dropSpokenBelowAlert cvX9_dropSpokenBelowAlert rfl (by decide) rfl (fun b Q1 hq => tX9_dropSpokenBelowAlert b h4 Q1 hq) ⟨by decide, by decide⟩ (Nat.le_of_ble_eq_true rfl) rfl hF (fun x17 h18 hF => ?_)
    show gV G mX9_comeAlert 2 Q 27 [some (sr (some a0)), some (sr a1)] [] (0) (0) h18
    refine v_goto (pc := 27) 74 dX9_comeAlert_27 rfl ?_
    exact v_ret (pc := 74) dX9_comeAlert_74 rfl (okr hF fun q => q)
  replace hF := (okB_if hF).1 hc
  exact v_ret (pc := 7) dX9_comeAlert_7 rfl (okr hF fun q => q)
/-! BrailleDesk$Voice.hush -/
theorem tX9_hush {G : gG} (a0 : Nat) (h : hp) (Q : hQ) (hF : okB (fX9_hush a0 h) (pH gU Q)) : gS G mX9_hush 1 0 0 [sr (some a0)] h Q := by
  delta fX9_hush at hF
  refine gS_at [some (sr (some a0))] pl_X9 rfl (Nat.le_of_ble_eq_true rfl) rfl ?_
  refine v_aload_n (pc := 0) (i := 0) dX9_hush_0 rfl rfl ?_
  refine v_dup (pc := 1) dX9_hush_1 rfl ?_
  refine s_getI (pc := 2) dX9_hush_2 flX9_60 rfl hF (fun x1 hF => ?_)
  refine v_aload_n (pc := 5) (i := 0) dX9_hush_5 rfl rfl ?_
  refine s_getR (pc := 6) dX9_hush_6 flX9_14 rfl hF (fun x2 hF => ?_)
  refine cp_V (pc := 9) gI (as := []) (st := [si x1, sr (some a0)]) (ci := 3) (N := mX4_size) (k := 0) (n := 0) (k1 := 0) (n1 := 0) dX9_hush_9 lkX9_41 caX4_size cvX4_size rfl (by decide) rfl (fun b Q1 hq => tX4_size b h Q1 hq) ⟨by decide, by decide⟩ (Nat.le_of_ble_eq_true rfl) rfl hF (fun x3 hF => ?_)
  show gV G mX9_hush 1 Q 12 [some (sr (some a0))] [si x3, si x1, sr (some a0)] (0) (0) h
  refine v_iadd (pc := 12) dX9_hush_12 ?_
  refine s_putI (pc := 13) dX9_hush_13 flX9_60 (Or.inl rfl) rfl hF (fun h4 hF => ?_)
  refine v_aload_n (pc := 16) (i := 0) dX9_hush_16 rfl rfl ?_
  refine s_getR (pc := 17) dX9_hush_17 flX9_14 rfl hF (fun x5 hF => ?_)
  refine ch_V (pc := 20) gU (as := []) (st := []) (ci := 3) (N := mX4_clear) (k := 0) (n := 0) (k1 := 0) (n1 := 0) dX9_hush_20 lkX9_83 caX4_clear cvX4_clear rfl (by decide) rfl (fun b Q1 hq => tX4_clear b h4 Q1 hq) ⟨by decide, by decide⟩ (Nat.le_of_ble_eq_true rfl) rfl hF (fun x6 h7 hF => ?_)
  show gV G mX9_hush 1 Q 23 [some (sr (some a0))] [] (0) (0) h7
  refine v_aload_n (pc := 23) (i := 0) dX9_hush_23 rfl rfl ?_
  refine ch_V (pc := 24) gU (as := []) (st := []) (ci := 8) (N := mX9_dropAnswerThatWaits) (k := 0) (n := 0) (k1 := 0) (n1 := 0) dX9_hush_24 lkX9_63 caX9_dropAnswerThatWaits cvX9_dropAnswerThatWaits rfl (by decide) rfl (fun b Q1 hq => tX9_dropAnswerThatWaits b h7 Q1 hq) ⟨by decide, by decide⟩ (Nat.le_of_ble_eq_true rfl) rfl hF (fun x8 h9 hF => ?_)
  show gV G mX9_hush 1 Q 27 [some (sr (some a0))] [] (0) (0) h9
  refine v_aload_n (pc := 27) (i := 0) dX9_hush_27 rfl rfl ?_
  refine ch_V (pc := 28) gU (as := []) (st := []) (ci := 8) (N := mX9_dropSpokenBelowAlert) (k := 0) (n := 0) (k1 := 0) (n1 := 0) dX9_hush_28 lkX9_66 caX9_dropSpokenBelowAlert cvX9_dropSpokenBelowAlert rfl (by decide) rfl (fun b Q1 hq => tX9_dropSpokenBelowAlert b h9 Q1 hq) ⟨by decide, by decide⟩ (Nat.le_of_ble_eq_true rfl) rfl hF (fun x10 h11 hF => ?_)
  show gV G mX9_hush 1 Q 31 [some (sr (some a0))] [] (0) (0) h11
  exact v_ret (pc := 31) dX9_hush_31 rfl (okr hF fun q => q)
/-! BrailleDesk$Voice.begin -/
theorem tX9_begin {G : gG} (a0 : Nat) (h : hp) (Q : hQ) (hF : okB (fX9_begin a0 h) (pH gU Q)) : gS G mX9_begin 2 0 0 [sr (some a0)] h Q := by
  delta fX9_begin at hF
  refine gS_at [some (sr (some a0))] pl_X9 rfl (Nat.le_of_ble_eq_true rfl) rfl ?_
  refine v_aload_n (pc := 0) (i := 0) dX9_begin_0 rfl rfl ?_
  refine v_iconst (pc := 1) (v := (0 : Int32)) dX9_begin_1 rfl ?_
  refine s_putI (pc := 2) dX9_begin_2 flX9_50 (Or.inl rfl) rfl hF (fun h1 hF => ?_)
  refine v_aload_n (pc := 5) (i := 0) dX9_begin_5 rfl rfl ?_
  refine s_getR (pc := 6) dX9_begin_6 flX9_20 rfl hF (fun x2 hF => ?_)
  refine cp_V (pc := 9) gI (as := []) (st := []) (ci := 3) (N := mX4_size) (k := 0) (n := 0) (k1 := 0) (n1 := 0) dX9_begin_9 lkX9_41 caX4_size cvX4_size rfl (by decide) rfl (fun b Q1 hq => tX4_size b h1 Q1 hq) ⟨by decide, by decide⟩ (Nat.le_of_ble_eq_true rfl) rfl hF (fun x3 hF => ?_)
  show gV G mX9_begin 2 Q 12 [some (sr (some a0))] [si x3] (0) (0) h1
  refine v_if_le (pc := 12) 34 dX9_begin_12 rfl (fun hc => ?_) (fun hc => ?_)
  · replace hF := (okB_if hF).1 hc
    refine v_aload_n (pc := 34) (i := 0) dX9_begin_34 rfl rfl ?_
    refine s_getI (pc := 35) dX9_begin_35 flX9_45 rfl hF (fun x4 hF => ?_)
    refine v_if_eq (pc := 38) 73 dX9_begin_38 rfl (fun hc => ?_) (fun hc => ?_)
    · replace hF := (okB_if hF).1 hc
      refine v_aload_n (pc := 73) (i := 0) dX9_begin_73 rfl rfl ?_
      refine s_getR (pc := 74) dX9_begin_74 flX9_14 rfl hF (fun x5 hF => ?_)
      refine cp_V (pc := 77) gI (as := []) (st := []) (ci := 3) (N := mX4_size) (k := 0) (n := 0) (k1 := 0) (n1 := 0) dX9_begin_77 lkX9_41 caX4_size cvX4_size rfl (by decide) rfl (fun b Q1 hq => tX4_size b h1 Q1 hq) ⟨by decide, by decide⟩ (Nat.le_of_ble_eq_true rfl) rfl hF (fun x6 hF => ?_)
      show gV G mX9_begin 2 Q 80 [some (sr (some a0))] [si x6] (0) (0) h1
      refine v_if_le (pc := 80) 99 dX9_begin_80 rfl (fun hc => ?_) (fun hc => ?_)
      · replace hF := (okB_if hF).1 hc
        exact v_ret (pc := 99) dX9_begin_99 rfl (okr hF fun q => q)
      replace hF := (okB_if hF).2 hc
      refine v_aload_n (pc := 83) (i := 0) dX9_begin_83 rfl rfl ?_
      refine s_getR (pc := 84) dX9_begin_84 flX9_14 rfl hF (fun x7 hF => ?_)
      refine v_aload_n (pc := 87) (i := 0) dX9_begin_87 rfl rfl ?_
      refine s_getR (pc := 88) dX9_begin_88 flX9_30 rfl hF (fun x8 hF => ?_)
      refine ch_V (pc := 91) gU (as := [sr x8]) (st := []) (ci := 3) (N := mX4_moveFirst) (k := 0) (n := 0) (k1 := 0) (n1 := 0) dX9_begin_91 lkX9_92 caX4_moveFirst cvX4_moveFirst rfl (by decide) rfl (fun b Q1 hq => tX4_moveFirst b x8 h1 Q1 hq) ⟨by decide, by decide⟩ (Nat.le_of_ble_eq_true rfl) rfl hF (fun x9 h10 hF => ?_)
      show gV G mX9_begin 2 Q 94 [some (sr (some a0))] [] (0) (0) h10
      refine v_aload_n (pc := 94) (i := 0) dX9_begin_94 rfl rfl ?_
      refine v_iconst (pc := 95) (v := (0 : Int32)) dX9_begin_95 rfl ?_
      refine s_putI (pc := 96) dX9_begin_96 flX9_33 (Or.inl rfl) rfl hF (fun h11 hF => ?_)
      exact v_ret (pc := 99) dX9_begin_99 rfl (okr hF fun q => q)
    replace hF := (okB_if hF).2 hc
    refine v_aload_n (pc := 41) (i := 0) dX9_begin_41 rfl rfl ?_
    refine s_getR (pc := 42) dX9_begin_42 flX9_30 rfl hF (fun x12 hF => ?_)
    refine v_aload_n (pc := 45) (i := 0) dX9_begin_45 rfl rfl ?_
    refine s_getR (pc := 46) dX9_begin_46 flX9_26 rfl hF (fun x13 hF => ?_)
    refine ch_V (pc := 49) gU (as := [sr x13]) (st := []) (ci := 0) (N := mX1_copy) (k := 0) (n := 0) (k1 := 0) (n1 := 0) dX9_begin_49 lkX9_69 caX1_copy cvX1_copy rfl (by decide) rfl (fun b Q1 hq => tX1_copy b x13 h1 Q1 hq) ⟨by decide, by decide⟩ (Nat.le_of_ble_eq_true rfl) rfl hF (fun x14 h15 hF => ?_)
    show gV G mX9_begin 2 Q 52 [some (sr (some a0))] [] (0) (0) h15
    refine v_aload_n (pc := 52) (i := 0) dX9_begin_52 rfl rfl ?_
    refine v_aload_n (pc := 53) (i := 0) dX9_begin_53 rfl rfl ?_
    refine s_getI (pc := 54) dX9_begin_54 flX9_72 rfl hF (fun x16 hF => ?_)
    refine s_putI (pc := 57) dX9_begin_57 flX9_50 (Or.inl rfl) rfl hF (fun h17 hF => ?_)
    refine v_aload_n (pc := 60) (i := 0) dX9_begin_60 rfl rfl ?_
    refine v_iconst (pc := 61) (v := (0 : Int32)) dX9_begin_61 rfl ?_
    refine s_putZ (pc := 62) dX9_begin_62 flX9_45 (Or.inl rfl) rfl hF (fun h18 hF => ?_)
    refine v_aload_n (pc := 65) (i := 0) dX9_begin_65 rfl rfl ?_
    refine v_iconst (pc := 66) (v := (1 : Int32)) dX9_begin_66 rfl ?_
    refine s_putI (pc := 67) dX9_begin_67 flX9_33 (Or.inl rfl) rfl hF (fun h19 hF => ?_)
    refine v_goto (pc := 70) 99 dX9_begin_70 rfl ?_
    exact v_ret (pc := 99) dX9_begin_99 rfl (okr hF fun q => q)
  replace hF := (okB_if hF).2 hc
  refine v_aload_n (pc := 15) (i := 0) dX9_begin_15 rfl rfl ?_
  refine s_getR (pc := 16) dX9_begin_16 flX9_20 rfl hF (fun x20 hF => ?_)
  refine v_aload_n (pc := 19) (i := 0) dX9_begin_19 rfl rfl ?_
  refine s_getR (pc := 20) dX9_begin_20 flX9_30 rfl hF (fun x21 hF => ?_)
  refine ch_V (pc := 23) gU (as := [sr x21]) (st := []) (ci := 3) (N := mX4_moveFirst) (k := 0) (n := 0) (k1 := 0) (n1 := 0) dX9_begin_23 lkX9_92 caX4_moveFirst cvX4_moveFirst rfl (by decide) rfl (fun b Q1 hq => tX4_moveFirst b x21 h1 Q1 hq) ⟨by decide, by decide⟩ (Nat.le_of_ble_eq_true rfl) rfl hF (fun x22 h23 hF => ?_)
  show gV G mX9_begin 2 Q 26 [some (sr (some a0))] [] (0) (0) h23
  refine v_aload_n (pc := 26) (i := 0) dX9_begin_26 rfl rfl ?_
  refine v_iconst (pc := 27) (v := (2 : Int32)) dX9_begin_27 rfl ?_
  refine s_putI (pc := 28) dX9_begin_28 flX9_33 (Or.inl rfl) rfl hF (fun h24 hF => ?_)
  refine v_goto (pc := 31) 99 dX9_begin_31 rfl ?_
  exact v_ret (pc := 99) dX9_begin_99 rfl (okr hF fun q => q)
/-! BrailleDesk$Voice.speak -/
theorem tX9_speak {G : gG} (a0 : Nat) (h : hp) (Q : hQ) (hF : okB (fX9_speak a0 h) (pH gU Q)) : gS G mX9_speak 3 0 0 [sr (some a0)] h Q := by
  delta fX9_speak at hF
  refine gS_at [some (sr (some a0)), none] pl_X9 rfl (Nat.le_of_ble_eq_true rfl) rfl ?_
  refine v_aload_n (pc := 0) (i := 0) dX9_speak_0 rfl rfl ?_
  refine s_getI (pc := 1) dX9_speak_1 flX9_33 rfl hF (fun x1 hF => ?_)
  refine v_iconst (pc := 4) (v := (-1 : Int32)) dX9_speak_4 rfl ?_
  refine mg (X := fun q2 => gV G mX9_speak 3 Q 12 [some (sr (some a0)), none] [] (0) (0) q2) hF (fun _ hj3 hF => ?_) (fun q2 hF => ?_)
  · refine v_icmp_ne (pc := 5) 12 dX9_speak_5 rfl (fun hc => ?_) (fun hc => ?_)
    · replace hF := (okB_if hF).2 hc
      exact v_lle [some (sr (some a0)), none] ⟨rfl, trivial⟩ (hj3 h (okB_some hF))
    replace hF := (okB_if hF).1 hc
    refine v_aload_n (pc := 8) (i := 0) dX9_speak_8 rfl rfl ?_
    refine ch_V (pc := 9) gU (as := []) (st := []) (ci := 8) (N := mX9_begin) (k := 0) (n := 0) (k1 := 0) (n1 := 0) dX9_speak_9 lkX9_86 caX9_begin cvX9_begin rfl (by decide) rfl (fun b Q1 hq => tX9_begin b h Q1 hq) ⟨by decide, by decide⟩ (Nat.le_of_ble_eq_true rfl) rfl hF (fun x4 h5 hF => ?_)
    show gV G mX9_speak 3 Q 12 [some (sr (some a0)), none] [] (0) (0) h5
    exact v_lle [some (sr (some a0)), none] ⟨rfl, trivial⟩ (hj3 h5 (okB_some hF))
  refine v_aload_n (pc := 12) (i := 0) dX9_speak_12 rfl rfl ?_
  refine s_getI (pc := 13) dX9_speak_13 flX9_33 rfl hF (fun x6 hF => ?_)
  refine v_iconst (pc := 16) (v := (-1 : Int32)) dX9_speak_16 rfl ?_
  refine v_icmp_ne (pc := 17) 21 dX9_speak_17 rfl (fun hc => ?_) (fun hc => ?_)
  · replace hF := (okB_if hF).2 hc
    refine v_aload_n (pc := 21) (i := 0) dX9_speak_21 rfl rfl ?_
    refine s_getI (pc := 22) dX9_speak_22 flX9_89 rfl hF (fun x7 hF => ?_)
    refine v_bipush (pc := 25) (v := (100 : Int32)) dX9_speak_25 rfl ?_
    refine s_irem (pc := 27) dX9_speak_27 hF (fun hF => ?_)
    refine v_istore_n (pc := 28) (i := 1) [some (sr (some a0)), some (si (x7 - x7 / (100 : Int32) * (100 : Int32)))] dX9_speak_28 rfl (by decide) rfl rfl ?_
    refine v_iload_n (pc := 29) (i := 1) dX9_speak_29 rfl rfl ?_
    refine mg (X := fun q8 => gV G mX9_speak 3 Q 59 [some (sr (some a0)), none] [] (0) (0) q8) hF (fun _ hj9 hF => ?_) (fun q8 hF => ?_)
    · refine v_if_lt (pc := 30) 59 dX9_speak_30 rfl (fun hc => ?_) (fun hc => ?_)
      · replace hF := (okB_if hF).1 hc
        exact v_lle [some (sr (some a0)), none] ⟨rfl, trivial⟩ (hj9 q2 (okB_some hF))
      replace hF := (okB_if hF).2 hc
      refine v_iload_n (pc := 33) (i := 1) dX9_speak_33 rfl rfl ?_
      refine v_aload_n (pc := 34) (i := 0) dX9_speak_34 rfl rfl ?_
      refine s_getR (pc := 35) dX9_speak_35 flX9_37 rfl hF (fun x10 hF => ?_)
      refine s_alen (pc := 38) dX9_speak_38 hF (fun x11 hF => ?_)
      refine v_icmp_ge (pc := 39) 59 dX9_speak_39 rfl (fun hc => ?_) (fun hc => ?_)
      · replace hF := (okB_if hF).1 hc
        exact v_lle [some (sr (some a0)), none] ⟨rfl, trivial⟩ (hj9 q2 (okB_some hF))
      replace hF := (okB_if hF).2 hc
      refine v_aload_n (pc := 42) (i := 0) dX9_speak_42 rfl rfl ?_
      refine s_getR (pc := 43) dX9_speak_43 flX9_37 rfl hF (fun x12 hF => ?_)
      refine v_iload_n (pc := 46) (i := 1) dX9_speak_46 rfl rfl ?_
      refine v_aload_n (pc := 47) (i := 0) dX9_speak_47 rfl rfl ?_
      refine s_getR (pc := 48) dX9_speak_48 flX9_30 rfl hF (fun x13 hF => ?_)
      refine v_aload_n (pc := 51) (i := 0) dX9_speak_51 rfl rfl ?_
      refine s_getI (pc := 52) dX9_speak_52 flX9_50 rfl hF (fun x14 hF => ?_)
      refine cp_V (pc := 55) gI (as := [si x14]) (st := [si (x7 - x7 / (100 : Int32) * (100 : Int32)), sr x12]) (ci := 0) (N := mX1_at) (k := 0) (n := 0) (k1 := 0) (n1 := 0) dX9_speak_55 lkX9_79 caX1_at cvX1_at rfl (by decide) rfl (fun b Q1 hq => tX1_at b x14 q2 Q1 hq) ⟨by decide, by decide⟩ (Nat.le_of_ble_eq_true rfl) rfl hF (fun x15 hF => ?_)
      show gV G mX9_speak 3 Q 58 [some (sr (some a0)), some (si (x7 - x7 / (100 : Int32) * (100 : Int32)))] [si x15, si (x7 - x7 / (100 : Int32) * (100 : Int32)), sr x12] (0) (0) q2
      refine s_iast (pc := 58) dX9_speak_58 hF (fun h16 hF => ?_)
      exact v_lle [some (sr (some a0)), none] ⟨rfl, trivial⟩ (hj9 h16 (okB_some hF))
    refine v_aload_n (pc := 59) (i := 0) dX9_speak_59 rfl rfl ?_
    refine v_dup (pc := 60) dX9_speak_60 rfl ?_
    refine s_getI (pc := 61) dX9_speak_61 flX9_89 rfl hF (fun x17 hF => ?_)
    refine v_iconst (pc := 64) (v := (1 : Int32)) dX9_speak_64 rfl ?_
    refine v_iadd (pc := 65) dX9_speak_65 ?_
    refine s_putI (pc := 66) dX9_speak_66 flX9_89 (Or.inl rfl) rfl hF (fun h18 hF => ?_)
    refine v_aload_n (pc := 69) (i := 0) dX9_speak_69 rfl rfl ?_
    refine v_dup (pc := 70) dX9_speak_70 rfl ?_
    refine s_getI (pc := 71) dX9_speak_71 flX9_50 rfl hF (fun x19 hF => ?_)
    refine v_iconst (pc := 74) (v := (1 : Int32)) dX9_speak_74 rfl ?_
    refine v_iadd (pc := 75) dX9_speak_75 ?_
    refine s_putI (pc := 76) dX9_speak_76 flX9_50 (Or.inl rfl) rfl hF (fun h20 hF => ?_)
    refine v_aload_n (pc := 79) (i := 0) dX9_speak_79 rfl rfl ?_
    refine s_getI (pc := 80) dX9_speak_80 flX9_50 rfl hF (fun x21 hF => ?_)
    refine v_aload_n (pc := 83) (i := 0) dX9_speak_83 rfl rfl ?_
    refine s_getR (pc := 84) dX9_speak_84 flX9_30 rfl hF (fun x22 hF => ?_)
    refine cp_V (pc := 87) gI (as := []) (st := [si x21]) (ci := 0) (N := mX1_size) (k := 0) (n := 0) (k1 := 0) (n1 := 0) dX9_speak_87 lkX9_49 caX1_size cvX1_size rfl (by decide) rfl (fun b Q1 hq => tX1_size b h20 Q1 hq) ⟨by decide, by decide⟩ (Nat.le_of_ble_eq_true rfl) rfl hF (fun x23 hF => ?_)
    show gV G mX9_speak 3 Q 90 [some (sr (some a0)), none] [si x23, si x21] (0) (0) h20
    refine v_icmp_lt (pc := 90) 98 dX9_speak_90 rfl (fun hc => ?_) (fun hc => ?_)
    · replace hF := (okB_if hF).1 hc
      exact v_ret (pc := 98) dX9_speak_98 rfl (okr hF fun q => q)
    replace hF := (okB_if hF).2 hc
    refine v_aload_n (pc := 93) (i := 0) dX9_speak_93 rfl rfl ?_
    refine v_iconst (pc := 94) (v := (-1 : Int32)) dX9_speak_94 rfl ?_
    refine s_putI (pc := 95) dX9_speak_95 flX9_33 (Or.inl rfl) rfl hF (fun h24 hF => ?_)
    exact v_ret (pc := 98) dX9_speak_98 rfl (okr hF fun q => q)
  replace hF := (okB_if hF).1 hc
  exact v_ret (pc := 20) dX9_speak_20 rfl (okr hF fun q => q)
/-! BrailleDesk$Tree.<init> -/
theorem tX7_init {G : gG} (a0 : Nat) (h : hp) (Q : hQ) (hF : okB (fX7_init a0 h) (pH gU Q)) : gS G mX7_init 3 10 411 [sr (some a0)] h Q := by
  delta fX7_init at hF
  refine gS_at [some (sr (some a0))] pl_X7 rfl (Nat.le_of_ble_eq_true rfl) rfl ?_
  refine v_aload_n (pc := 0) (i := 0) dX7_init_0 rfl rfl ?_
  refine v_objI (pc := 1) dX7_init_1 lkX7_3 oi_c oi_d (Nat.le_of_ble_eq_true rfl) (by decide) ?_
  refine v_aload_n (pc := 4) (i := 0) dX7_init_4 rfl rfl ?_
  refine v_new (pc := 5) (ci := 1) (k := 9) (n := 396) dX7_init_5 (by decide) ccX7_9 ins_1 ini_1 ?_
  refine v_dup (pc := 8) dX7_init_8 rfl ?_
  refine v_iconst (pc := 9) (v := (0 : Int32)) dX7_init_9 rfl ?_
  refine v_iconst (pc := 10) (v := (0 : Int32)) dX7_init_10 rfl ?_
  refine v_null (pc := 11) dX7_init_11 ?_
  refine ch_I (pc := 12) (as := [si (0 : Int32), si (0 : Int32), sr (none : Option Nat)]) (st := [sr (some (hN h)), sr (some a0)]) (N := mX2_init) (k := 2) (n := 80) (k1 := 7) (n1 := 316) dX7_init_12 lkX7_11 caX2_init ciX2_init rfl rfl rfl (fun Q1 hq => tX2_init (hN h) (0 : Int32) (0 : Int32) (none : Option Nat) (wN h (2, 0)) Q1 hq) ⟨by decide, by decide⟩ (Nat.le_of_ble_eq_true rfl) rfl hF (fun x1 h2 hF => ?_)
  refine s_putR (pc := 15) dX7_init_15 flX7_14 (Or.inr ⟨rfl, rfl, rfl⟩) rfl hF (fun h3 hF => ?_)
  refine v_aload_n (pc := 18) (i := 0) dX7_init_18 rfl rfl ?_
  refine v_bipush (pc := 19) (v := (40 : Int32)) dX7_init_19 rfl ?_
  refine v_newA (pc := 21) (kd := 22) (ci := 1) (t := 2) (k := 1) (n := 40) (len := 40) dX7_init_21 (Or.inl ⟨rfl, rfl, rfl⟩) ccX7_9 rfl (by decide) ?_
  refine s_putR (pc := 24) dX7_init_24 flX7_20 (Or.inr ⟨rfl, rfl, rfl⟩) rfl hF (fun h4 hF => ?_)
  refine v_aload_n (pc := 27) (i := 0) dX7_init_27 rfl rfl ?_
  refine s_getR (pc := 28) dX7_init_28 flX7_20 rfl hF (fun x5 hF => ?_)
  refine v_iconst (pc := 31) (v := (0 : Int32)) dX7_init_31 rfl ?_
  refine v_aload_n (pc := 32) (i := 0) dX7_init_32 rfl rfl ?_
  refine s_getR (pc := 33) dX7_init_33 flX7_14 rfl hF (fun x6 hF => ?_)
  refine s_aast22 (pc := 36) dX7_init_36 hF (fun h7 hF => ?_)
  refine v_aload_n (pc := 37) (i := 0) dX7_init_37 rfl rfl ?_
  refine v_iconst (pc := 38) (v := (1 : Int32)) dX7_init_38 rfl ?_
  refine s_putI (pc := 39) dX7_init_39 flX7_24 (Or.inl rfl) rfl hF (fun h8 hF => ?_)
  refine v_aload_n (pc := 42) (i := 0) dX7_init_42 rfl rfl ?_
  refine v_iconst (pc := 43) (v := (1 : Int32)) dX7_init_43 rfl ?_
  refine s_putI (pc := 44) dX7_init_44 flX7_28 (Or.inl rfl) rfl hF (fun h9 hF => ?_)
  refine v_aload_n (pc := 47) (i := 0) dX7_init_47 rfl rfl ?_
  refine v_bipush (pc := 48) (v := (40 : Int32)) dX7_init_48 rfl ?_
  refine v_newA (pc := 50) (kd := 22) (ci := 1) (t := 2) (k := 0) (n := 0) (len := 40) dX7_init_50 (Or.inl ⟨rfl, rfl, rfl⟩) ccX7_9 rfl (by decide) ?_
  refine s_putR (pc := 53) dX7_init_53 flX7_31 (Or.inr ⟨rfl, rfl, rfl⟩) rfl hF (fun h10 hF => ?_)
  refine v_aload_n (pc := 56) (i := 0) dX7_init_56 rfl rfl ?_
  refine s_getR (pc := 57) dX7_init_57 flX7_31 rfl hF (fun x11 hF => ?_)
  refine v_iconst (pc := 60) (v := (0 : Int32)) dX7_init_60 rfl ?_
  refine v_aload_n (pc := 61) (i := 0) dX7_init_61 rfl rfl ?_
  refine s_getR (pc := 62) dX7_init_62 flX7_14 rfl hF (fun x12 hF => ?_)
  refine s_aast22 (pc := 65) dX7_init_65 hF (fun h13 hF => ?_)
  refine v_aload_n (pc := 66) (i := 0) dX7_init_66 rfl rfl ?_
  refine v_iconst (pc := 67) (v := (1 : Int32)) dX7_init_67 rfl ?_
  refine s_putI (pc := 68) dX7_init_68 flX7_34 (Or.inl rfl) rfl hF (fun h14 hF => ?_)
  exact v_ret (pc := 71) dX7_init_71 rfl (okr hF fun q => q)
/-! BrailleDesk$Tree.hasRoom -/
theorem tX7_hasRoom {G : gG} (a0 : Nat) (h : hp) (Q : hQ) (hF : okB (fX7_hasRoom a0 h) (pP gI Q h)) : gS G mX7_hasRoom 0 0 0 [sr (some a0)] h Q := by
  delta fX7_hasRoom at hF
  refine gS_at [some (sr (some a0))] pl_X7 rfl (Nat.le_of_ble_eq_true rfl) rfl ?_
  refine v_aload_n (pc := 0) (i := 0) dX7_hasRoom_0 rfl rfl ?_
  refine s_getI (pc := 1) dX7_hasRoom_1 flX7_24 rfl hF (fun x1 hF => ?_)
  refine v_bipush (pc := 4) (v := (40 : Int32)) dX7_hasRoom_4 rfl ?_
  refine v_icmp_ge (pc := 6) 13 dX7_hasRoom_6 rfl (fun hc => ?_) (fun hc => ?_)
  · replace hF := (okB_if hF).1 hc
    refine v_iconst (pc := 13) (v := (0 : Int32)) dX7_hasRoom_13 rfl ?_
    exact v_iret (pc := 14) dX7_hasRoom_14 rfl rfl (okr hF fun q => q)
  replace hF := (okB_if hF).2 hc
  refine v_iconst (pc := 9) (v := (1 : Int32)) dX7_hasRoom_9 rfl ?_
  refine v_goto (pc := 10) 14 dX7_hasRoom_10 rfl ?_
  exact v_iret (pc := 14) dX7_hasRoom_14 rfl rfl (okr hF fun q => q)
/-! BrailleDesk$Tree.find -/
theorem tX7_find {G : gG} (a0 : Nat) (a1 : Int32) (h : hp) (Q : hQ) (hF : okB (fX7_find a0 a1 h) (pP gR Q h)) : gS G mX7_find 0 0 0 [sr (some a0), si a1] h Q := by
  delta fX7_find at hF
  refine gS_at [some (sr (some a0)), some (si a1)] pl_X7 rfl (Nat.le_of_ble_eq_true rfl) rfl ?_
  refine v_iload_n (pc := 0) (i := 1) dX7_find_0 rfl rfl ?_
  refine v_if_lt (pc := 1) 22 dX7_find_1 rfl (fun hc => ?_) (fun hc => ?_)
  · replace hF := (okB_if hF).1 hc
    refine v_null (pc := 22) dX7_find_22 ?_
    exact v_aret (pc := 23) dX7_find_23 rfl (Or.inl ⟨_, rfl⟩) (okr hF fun q => q)
  replace hF := (okB_if hF).2 hc
  refine v_iload_n (pc := 4) (i := 1) dX7_find_4 rfl rfl ?_
  refine v_aload_n (pc := 5) (i := 0) dX7_find_5 rfl rfl ?_
  refine s_getR (pc := 6) dX7_find_6 flX7_20 rfl hF (fun x1 hF => ?_)
  refine s_alen (pc := 9) dX7_find_9 hF (fun x2 hF => ?_)
  refine v_icmp_ge (pc := 10) 22 dX7_find_10 rfl (fun hc => ?_) (fun hc => ?_)
  · replace hF := (okB_if hF).1 hc
    refine v_null (pc := 22) dX7_find_22 ?_
    exact v_aret (pc := 23) dX7_find_23 rfl (Or.inl ⟨_, rfl⟩) (okr hF fun q => q)
  replace hF := (okB_if hF).2 hc
  refine v_aload_n (pc := 13) (i := 0) dX7_find_13 rfl rfl ?_
  refine s_getR (pc := 14) dX7_find_14 flX7_20 rfl hF (fun x3 hF => ?_)
  refine v_iload_n (pc := 17) (i := 1) dX7_find_17 rfl rfl ?_
  refine s_aald22 (pc := 18) dX7_find_18 hF (fun x4 hF => ?_)
  refine v_goto (pc := 19) 23 dX7_find_19 rfl ?_
  exact v_aret (pc := 23) dX7_find_23 rfl (Or.inl ⟨_, rfl⟩) (okr hF fun q => q)
/-! BrailleDesk$Tree.inOrder -/
theorem tX7_inOrder {G : gG} (a0 : Nat) (a1 : Int32) (h : hp) (Q : hQ) (hF : okB (fX7_inOrder a0 a1 h) (pP gR Q h)) : gS G mX7_inOrder 0 0 0 [sr (some a0), si a1] h Q := by
  delta fX7_inOrder at hF
  refine gS_at [some (sr (some a0)), some (si a1)] pl_X7 rfl (Nat.le_of_ble_eq_true rfl) rfl ?_
  refine v_iload_n (pc := 0) (i := 1) dX7_inOrder_0 rfl rfl ?_
  refine v_if_lt (pc := 1) 30 dX7_inOrder_1 rfl (fun hc => ?_) (fun hc => ?_)
  · replace hF := (okB_if hF).1 hc
    refine v_null (pc := 30) dX7_inOrder_30 ?_
    exact v_aret (pc := 31) dX7_inOrder_31 rfl (Or.inl ⟨_, rfl⟩) (okr hF fun q => q)
  replace hF := (okB_if hF).2 hc
  refine v_iload_n (pc := 4) (i := 1) dX7_inOrder_4 rfl rfl ?_
  refine v_aload_n (pc := 5) (i := 0) dX7_inOrder_5 rfl rfl ?_
  refine s_getI (pc := 6) dX7_inOrder_6 flX7_34 rfl hF (fun x1 hF => ?_)
  refine v_icmp_ge (pc := 9) 30 dX7_inOrder_9 rfl (fun hc => ?_) (fun hc => ?_)
  · replace hF := (okB_if hF).1 hc
    refine v_null (pc := 30) dX7_inOrder_30 ?_
    exact v_aret (pc := 31) dX7_inOrder_31 rfl (Or.inl ⟨_, rfl⟩) (okr hF fun q => q)
  replace hF := (okB_if hF).2 hc
  refine v_iload_n (pc := 12) (i := 1) dX7_inOrder_12 rfl rfl ?_
  refine v_aload_n (pc := 13) (i := 0) dX7_inOrder_13 rfl rfl ?_
  refine s_getR (pc := 14) dX7_inOrder_14 flX7_31 rfl hF (fun x2 hF => ?_)
  refine s_alen (pc := 17) dX7_inOrder_17 hF (fun x3 hF => ?_)
  refine v_icmp_ge (pc := 18) 30 dX7_inOrder_18 rfl (fun hc => ?_) (fun hc => ?_)
  · replace hF := (okB_if hF).1 hc
    refine v_null (pc := 30) dX7_inOrder_30 ?_
    exact v_aret (pc := 31) dX7_inOrder_31 rfl (Or.inl ⟨_, rfl⟩) (okr hF fun q => q)
  replace hF := (okB_if hF).2 hc
  refine v_aload_n (pc := 21) (i := 0) dX7_inOrder_21 rfl rfl ?_
  refine s_getR (pc := 22) dX7_inOrder_22 flX7_31 rfl hF (fun x4 hF => ?_)
  refine v_iload_n (pc := 25) (i := 1) dX7_inOrder_25 rfl rfl ?_
  refine s_aald22 (pc := 26) dX7_inOrder_26 hF (fun x5 hF => ?_)
  refine v_goto (pc := 27) 31 dX7_inOrder_27 rfl ?_
  exact v_aret (pc := 31) dX7_inOrder_31 rfl (Or.inl ⟨_, rfl⟩) (okr hF fun q => q)
