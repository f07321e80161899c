/-! ===== methods: their functions and rows ===== -/
theorem dX11_takeNews_0 : decode cX11_takeNews 0 = .ok (.aload_n 0, 1) := by decide +kernel
theorem dX11_takeNews_1 : decode cX11_takeNews 1 = .ok (.dup, 1) := by decide +kernel
theorem dX11_takeNews_2 : decode cX11_takeNews 2 = .ok (.getfield 178, 3) := by decide +kernel
theorem dX11_takeNews_5 : decode cX11_takeNews 5 = .ok (.iconst 1, 1) := by decide +kernel
theorem dX11_takeNews_6 : decode cX11_takeNews 6 = .ok (.isub, 1) := by decide +kernel
theorem dX11_takeNews_7 : decode cX11_takeNews 7 = .ok (.putfield 178, 3) := by decide +kernel
theorem dX11_takeNews_10 : decode cX11_takeNews 10 = .ok (.iconst 0, 1) := by decide +kernel
theorem dX11_takeNews_11 : decode cX11_takeNews 11 = .ok (.istore_n 1, 1) := by decide +kernel
theorem dX11_takeNews_12 : decode cX11_takeNews 12 = .ok (.iload_n 1, 1) := by decide +kernel
theorem dX11_takeNews_13 : decode cX11_takeNews 13 = .ok (.aload_n 0, 1) := by decide +kernel
theorem dX11_takeNews_14 : decode cX11_takeNews 14 = .ok (.getfield 178, 3) := by decide +kernel
theorem dX11_takeNews_17 : decode cX11_takeNews 17 = .ok (.if_icmp .ge 50, 3) := by decide +kernel
theorem dX11_takeNews_20 : decode cX11_takeNews 20 = .ok (.aload_n 0, 1) := by decide +kernel
theorem dX11_takeNews_21 : decode cX11_takeNews 21 = .ok (.getfield 71, 3) := by decide +kernel
theorem dX11_takeNews_24 : decode cX11_takeNews 24 = .ok (.iload_n 1, 1) := by decide +kernel
theorem dX11_takeNews_25 : decode cX11_takeNews 25 = .ok (.aload_n 0, 1) := by decide +kernel
theorem dX11_takeNews_26 : decode cX11_takeNews 26 = .ok (.getfield 71, 3) := by decide +kernel
theorem dX11_takeNews_29 : decode cX11_takeNews 29 = .ok (.iload_n 1, 1) := by decide +kernel
theorem dX11_takeNews_30 : decode cX11_takeNews 30 = .ok (.iconst 1, 1) := by decide +kernel
theorem dX11_takeNews_31 : decode cX11_takeNews 31 = .ok (.iadd, 1) := by decide +kernel
theorem dX11_takeNews_32 : decode cX11_takeNews 32 = .ok (.iaload, 1) := by decide +kernel
theorem dX11_takeNews_33 : decode cX11_takeNews 33 = .ok (.iastore, 1) := by decide +kernel
theorem dX11_takeNews_34 : decode cX11_takeNews 34 = .ok (.aload_n 0, 1) := by decide +kernel
theorem dX11_takeNews_35 : decode cX11_takeNews 35 = .ok (.getfield 68, 3) := by decide +kernel
theorem dX11_takeNews_38 : decode cX11_takeNews 38 = .ok (.bipush 100, 2) := by decide +kernel
theorem dX11_takeNews_40 : decode cX11_takeNews 40 = .ok (.iload_n 1, 1) := by decide +kernel
theorem dX11_takeNews_41 : decode cX11_takeNews 41 = .ok (.iconst 1, 1) := by decide +kernel
theorem dX11_takeNews_42 : decode cX11_takeNews 42 = .ok (.iadd, 1) := by decide +kernel
theorem dX11_takeNews_43 : decode cX11_takeNews 43 = .ok (.imul, 1) := by decide +kernel
theorem dX11_takeNews_44 : decode cX11_takeNews 44 = .ok (.aload_n 0, 1) := by decide +kernel
theorem dX11_takeNews_45 : decode cX11_takeNews 45 = .ok (.getfield 68, 3) := by decide +kernel
theorem dX11_takeNews_48 : decode cX11_takeNews 48 = .ok (.bipush 100, 2) := by decide +kernel
theorem dX11_takeNews_50 : decode cX11_takeNews 50 = .ok (.iload_n 1, 1) := by decide +kernel
theorem dX11_takeNews_51 : decode cX11_takeNews 51 = .ok (.imul, 1) := by decide +kernel
theorem dX11_takeNews_52 : decode cX11_takeNews 52 = .ok (.aload_n 0, 1) := by decide +kernel
theorem dX11_takeNews_53 : decode cX11_takeNews 53 = .ok (.getfield 71, 3) := by decide +kernel
theorem dX11_takeNews_56 : decode cX11_takeNews 56 = .ok (.iload_n 1, 1) := by decide +kernel
theorem dX11_takeNews_57 : decode cX11_takeNews 57 = .ok (.iaload, 1) := by decide +kernel
theorem dX11_takeNews_58 : decode cX11_takeNews 58 = .ok (.invokestatic 181, 3) := by decide +kernel
theorem dX11_takeNews_61 : decode cX11_takeNews 61 = .ok (.iinc 1 1, 3) := by decide +kernel
theorem dX11_takeNews_64 : decode cX11_takeNews 64 = .ok (.goto (-52), 3) := by decide +kernel
theorem dX11_takeNews_67 : decode cX11_takeNews 67 = .ok (.return_, 1) := by decide +kernel
theorem dX11_comeNews_0 : decode cX11_comeNews 0 = .ok (.aload_n 0, 1) := by decide +kernel
theorem dX11_comeNews_1 : decode cX11_comeNews 1 = .ok (.getfield 65, 3) := by decide +kernel
theorem dX11_comeNews_4 : decode cX11_comeNews 4 = .ok (.iconst 0, 1) := by decide +kernel
theorem dX11_comeNews_5 : decode cX11_comeNews 5 = .ok (.aload_n 0, 1) := by decide +kernel
theorem dX11_comeNews_6 : decode cX11_comeNews 6 = .ok (.getfield 68, 3) := by decide +kernel
theorem dX11_comeNews_9 : decode cX11_comeNews 9 = .ok (.bipush 100, 2) := by decide +kernel
theorem dX11_comeNews_11 : decode cX11_comeNews 11 = .ok (.aload_n 0, 1) := by decide +kernel
theorem dX11_comeNews_12 : decode cX11_comeNews 12 = .ok (.getfield 178, 3) := by decide +kernel
theorem dX11_comeNews_15 : decode cX11_comeNews 15 = .ok (.imul, 1) := by decide +kernel
theorem dX11_comeNews_16 : decode cX11_comeNews 16 = .ok (.aload_n 0, 1) := by decide +kernel
theorem dX11_comeNews_17 : decode cX11_comeNews 17 = .ok (.getfield 143, 3) := by decide +kernel
theorem dX11_comeNews_20 : decode cX11_comeNews 20 = .ok (.invokestatic 181, 3) := by decide +kernel
theorem dX11_comeNews_23 : decode cX11_comeNews 23 = .ok (.aload_n 0, 1) := by decide +kernel
theorem dX11_comeNews_24 : decode cX11_comeNews 24 = .ok (.getfield 71, 3) := by decide +kernel
theorem dX11_comeNews_27 : decode cX11_comeNews 27 = .ok (.aload_n 0, 1) := by decide +kernel
theorem dX11_comeNews_28 : decode cX11_comeNews 28 = .ok (.getfield 178, 3) := by decide +kernel
theorem dX11_comeNews_31 : decode cX11_comeNews 31 = .ok (.aload_n 0, 1) := by decide +kernel
theorem dX11_comeNews_32 : decode cX11_comeNews 32 = .ok (.getfield 143, 3) := by decide +kernel
theorem dX11_comeNews_35 : decode cX11_comeNews 35 = .ok (.iastore, 1) := by decide +kernel
theorem dX11_comeNews_36 : decode cX11_comeNews 36 = .ok (.aload_n 0, 1) := by decide +kernel
theorem dX11_comeNews_37 : decode cX11_comeNews 37 = .ok (.dup, 1) := by decide +kernel
theorem dX11_comeNews_38 : decode cX11_comeNews 38 = .ok (.getfield 178, 3) := by decide +kernel
theorem dX11_comeNews_41 : decode cX11_comeNews 41 = .ok (.iconst 1, 1) := by decide +kernel
theorem dX11_comeNews_42 : decode cX11_comeNews 42 = .ok (.iadd, 1) := by decide +kernel
theorem dX11_comeNews_43 : decode cX11_comeNews 43 = .ok (.putfield 178, 3) := by decide +kernel
theorem dX11_comeNews_46 : decode cX11_comeNews 46 = .ok (.aload_n 0, 1) := by decide +kernel
theorem dX11_comeNews_47 : decode cX11_comeNews 47 = .ok (.getfield 178, 3) := by decide +kernel
theorem dX11_comeNews_50 : decode cX11_comeNews 50 = .ok (.bipush 6, 2) := by decide +kernel
theorem dX11_comeNews_52 : decode cX11_comeNews 52 = .ok (.if_icmp .ne 17, 3) := by decide +kernel
theorem dX11_comeNews_55 : decode cX11_comeNews 55 = .ok (.aload_n 0, 1) := by decide +kernel
theorem dX11_comeNews_56 : decode cX11_comeNews 56 = .ok (.invokevirtual 185, 3) := by decide +kernel
theorem dX11_comeNews_59 : decode cX11_comeNews 59 = .ok (.aload_n 0, 1) := by decide +kernel
theorem dX11_comeNews_60 : decode cX11_comeNews 60 = .ok (.dup, 1) := by decide +kernel
theorem dX11_comeNews_61 : decode cX11_comeNews 61 = .ok (.getfield 188, 3) := by decide +kernel
theorem dX11_comeNews_64 : decode cX11_comeNews 64 = .ok (.iconst 1, 1) := by decide +kernel
theorem dX11_comeNews_65 : decode cX11_comeNews 65 = .ok (.iadd, 1) := by decide +kernel
theorem dX11_comeNews_66 : decode cX11_comeNews 66 = .ok (.putfield 188, 3) := by decide +kernel
theorem dX11_comeNews_69 : decode cX11_comeNews 69 = .ok (.return_, 1) := by decide +kernel
theorem dX11_takeAlert_0 : decode cX11_takeAlert 0 = .ok (.aload_n 0, 1) := by decide +kernel
theorem dX11_takeAlert_1 : decode cX11_takeAlert 1 = .ok (.dup, 1) := by decide +kernel
theorem dX11_takeAlert_2 : decode cX11_takeAlert 2 = .ok (.getfield 191, 3) := by decide +kernel
theorem dX11_takeAlert_5 : decode cX11_takeAlert 5 = .ok (.iconst 1, 1) := by decide +kernel
theorem dX11_takeAlert_6 : decode cX11_takeAlert 6 = .ok (.isub, 1) := by decide +kernel
theorem dX11_takeAlert_7 : decode cX11_takeAlert 7 = .ok (.putfield 191, 3) := by decide +kernel
theorem dX11_takeAlert_10 : decode cX11_takeAlert 10 = .ok (.iconst 0, 1) := by decide +kernel
theorem dX11_takeAlert_11 : decode cX11_takeAlert 11 = .ok (.istore_n 1, 1) := by decide +kernel
theorem dX11_takeAlert_12 : decode cX11_takeAlert 12 = .ok (.iload_n 1, 1) := by decide +kernel
theorem dX11_takeAlert_13 : decode cX11_takeAlert 13 = .ok (.aload_n 0, 1) := by decide +kernel
theorem dX11_takeAlert_14 : decode cX11_takeAlert 14 = .ok (.getfield 191, 3) := by decide +kernel
theorem dX11_takeAlert_17 : decode cX11_takeAlert 17 = .ok (.if_icmp .ge 50, 3) := by decide +kernel
theorem dX11_takeAlert_20 : decode cX11_takeAlert 20 = .ok (.aload_n 0, 1) := by decide +kernel
theorem dX11_takeAlert_21 : decode cX11_takeAlert 21 = .ok (.getfield 80, 3) := by decide +kernel
theorem dX11_takeAlert_24 : decode cX11_takeAlert 24 = .ok (.iload_n 1, 1) := by decide +kernel
theorem dX11_takeAlert_25 : decode cX11_takeAlert 25 = .ok (.aload_n 0, 1) := by decide +kernel
theorem dX11_takeAlert_26 : decode cX11_takeAlert 26 = .ok (.getfield 80, 3) := by decide +kernel
theorem dX11_takeAlert_29 : decode cX11_takeAlert 29 = .ok (.iload_n 1, 1) := by decide +kernel
theorem dX11_takeAlert_30 : decode cX11_takeAlert 30 = .ok (.iconst 1, 1) := by decide +kernel
theorem dX11_takeAlert_31 : decode cX11_takeAlert 31 = .ok (.iadd, 1) := by decide +kernel
theorem dX11_takeAlert_32 : decode cX11_takeAlert 32 = .ok (.iaload, 1) := by decide +kernel
theorem dX11_takeAlert_33 : decode cX11_takeAlert 33 = .ok (.iastore, 1) := by decide +kernel
theorem dX11_takeAlert_34 : decode cX11_takeAlert 34 = .ok (.aload_n 0, 1) := by decide +kernel
theorem dX11_takeAlert_35 : decode cX11_takeAlert 35 = .ok (.getfield 77, 3) := by decide +kernel
theorem dX11_takeAlert_38 : decode cX11_takeAlert 38 = .ok (.bipush 100, 2) := by decide +kernel
theorem dX11_takeAlert_40 : decode cX11_takeAlert 40 = .ok (.iload_n 1, 1) := by decide +kernel
theorem dX11_takeAlert_41 : decode cX11_takeAlert 41 = .ok (.iconst 1, 1) := by decide +kernel
theorem dX11_takeAlert_42 : decode cX11_takeAlert 42 = .ok (.iadd, 1) := by decide +kernel
theorem dX11_takeAlert_43 : decode cX11_takeAlert 43 = .ok (.imul, 1) := by decide +kernel
theorem dX11_takeAlert_44 : decode cX11_takeAlert 44 = .ok (.aload_n 0, 1) := by decide +kernel
theorem dX11_takeAlert_45 : decode cX11_takeAlert 45 = .ok (.getfield 77, 3) := by decide +kernel
theorem dX11_takeAlert_48 : decode cX11_takeAlert 48 = .ok (.bipush 100, 2) := by decide +kernel
theorem dX11_takeAlert_50 : decode cX11_takeAlert 50 = .ok (.iload_n 1, 1) := by decide +kernel
theorem dX11_takeAlert_51 : decode cX11_takeAlert 51 = .ok (.imul, 1) := by decide +kernel
theorem dX11_takeAlert_52 : decode cX11_takeAlert 52 = .ok (.aload_n 0, 1) := by decide +kernel
theorem dX11_takeAlert_53 : decode cX11_takeAlert 53 = .ok (.getfield 80, 3) := by decide +kernel
theorem dX11_takeAlert_56 : decode cX11_takeAlert 56 = .ok (.iload_n 1, 1) := by decide +kernel
theorem dX11_takeAlert_57 : decode cX11_takeAlert 57 = .ok (.iaload, 1) := by decide +kernel
theorem dX11_takeAlert_58 : decode cX11_takeAlert 58 = .ok (.invokestatic 181, 3) := by decide +kernel
theorem dX11_takeAlert_61 : decode cX11_takeAlert 61 = .ok (.iinc 1 1, 3) := by decide +kernel
theorem dX11_takeAlert_64 : decode cX11_takeAlert 64 = .ok (.goto (-52), 3) := by decide +kernel
theorem dX11_takeAlert_67 : decode cX11_takeAlert 67 = .ok (.return_, 1) := by decide +kernel
theorem dX11_comeAnswer_0 : decode cX11_comeAnswer 0 = .ok (.aload_n 0, 1) := by decide +kernel
theorem dX11_comeAnswer_1 : decode cX11_comeAnswer 1 = .ok (.getfield 143, 3) := by decide +kernel
theorem dX11_comeAnswer_4 : decode cX11_comeAnswer 4 = .ok (.ifCond .ne 4, 3) := by decide +kernel
theorem dX11_comeAnswer_7 : decode cX11_comeAnswer 7 = .ok (.return_, 1) := by decide +kernel
theorem dX11_comeAnswer_8 : decode cX11_comeAnswer 8 = .ok (.aload_n 0, 1) := by decide +kernel
theorem dX11_comeAnswer_9 : decode cX11_comeAnswer 9 = .ok (.dup, 1) := by decide +kernel
theorem dX11_comeAnswer_10 : decode cX11_comeAnswer 10 = .ok (.getfield 188, 3) := by decide +kernel
theorem dX11_comeAnswer_13 : decode cX11_comeAnswer 13 = .ok (.aload_n 0, 1) := by decide +kernel
theorem dX11_comeAnswer_14 : decode cX11_comeAnswer 14 = .ok (.getfield 194, 3) := by decide +kernel
theorem dX11_comeAnswer_17 : decode cX11_comeAnswer 17 = .ok (.ifCond .le 7, 3) := by decide +kernel
theorem dX11_comeAnswer_20 : decode cX11_comeAnswer 20 = .ok (.iconst 1, 1) := by decide +kernel
theorem dX11_comeAnswer_21 : decode cX11_comeAnswer 21 = .ok (.goto 4, 3) := by decide +kernel
theorem dX11_comeAnswer_24 : decode cX11_comeAnswer 24 = .ok (.iconst 0, 1) := by decide +kernel
theorem dX11_comeAnswer_25 : decode cX11_comeAnswer 25 = .ok (.iadd, 1) := by decide +kernel
theorem dX11_comeAnswer_26 : decode cX11_comeAnswer 26 = .ok (.putfield 188, 3) := by decide +kernel
theorem dX11_comeAnswer_29 : decode cX11_comeAnswer 29 = .ok (.aload_n 0, 1) := by decide +kernel
theorem dX11_comeAnswer_30 : decode cX11_comeAnswer 30 = .ok (.getfield 108, 3) := by decide +kernel
theorem dX11_comeAnswer_33 : decode cX11_comeAnswer 33 = .ok (.iconst 1, 1) := by decide +kernel
theorem dX11_comeAnswer_34 : decode cX11_comeAnswer 34 = .ok (.if_icmp .eq 10, 3) := by decide +kernel
theorem dX11_comeAnswer_37 : decode cX11_comeAnswer 37 = .ok (.aload_n 0, 1) := by decide +kernel
theorem dX11_comeAnswer_38 : decode cX11_comeAnswer 38 = .ok (.getfield 108, 3) := by decide +kernel
theorem dX11_comeAnswer_41 : decode cX11_comeAnswer 41 = .ok (.ifCond .ne 18, 3) := by decide +kernel
theorem dX11_comeAnswer_44 : decode cX11_comeAnswer 44 = .ok (.aload_n 0, 1) := by decide +kernel
theorem dX11_comeAnswer_45 : decode cX11_comeAnswer 45 = .ok (.iconst (-1), 1) := by decide +kernel
theorem dX11_comeAnswer_46 : decode cX11_comeAnswer 46 = .ok (.putfield 108, 3) := by decide +kernel
theorem dX11_comeAnswer_49 : decode cX11_comeAnswer 49 = .ok (.aload_n 0, 1) := by decide +kernel
theorem dX11_comeAnswer_50 : decode cX11_comeAnswer 50 = .ok (.dup, 1) := by decide +kernel
theorem dX11_comeAnswer_51 : decode cX11_comeAnswer 51 = .ok (.getfield 188, 3) := by decide +kernel
theorem dX11_comeAnswer_54 : decode cX11_comeAnswer 54 = .ok (.iconst 1, 1) := by decide +kernel
theorem dX11_comeAnswer_55 : decode cX11_comeAnswer 55 = .ok (.iadd, 1) := by decide +kernel
theorem dX11_comeAnswer_56 : decode cX11_comeAnswer 56 = .ok (.putfield 188, 3) := by decide +kernel
theorem dX11_comeAnswer_59 : decode cX11_comeAnswer 59 = .ok (.aload_n 0, 1) := by decide +kernel
theorem dX11_comeAnswer_60 : decode cX11_comeAnswer 60 = .ok (.getfield 65, 3) := by decide +kernel
theorem dX11_comeAnswer_63 : decode cX11_comeAnswer 63 = .ok (.iconst 0, 1) := by decide +kernel
theorem dX11_comeAnswer_64 : decode cX11_comeAnswer 64 = .ok (.aload_n 0, 1) := by decide +kernel
theorem dX11_comeAnswer_65 : decode cX11_comeAnswer 65 = .ok (.getfield 74, 3) := by decide +kernel
theorem dX11_comeAnswer_68 : decode cX11_comeAnswer 68 = .ok (.iconst 0, 1) := by decide +kernel
theorem dX11_comeAnswer_69 : decode cX11_comeAnswer 69 = .ok (.aload_n 0, 1) := by decide +kernel
theorem dX11_comeAnswer_70 : decode cX11_comeAnswer 70 = .ok (.getfield 143, 3) := by decide +kernel
theorem dX11_comeAnswer_73 : decode cX11_comeAnswer 73 = .ok (.invokestatic 181, 3) := by decide +kernel
theorem dX11_comeAnswer_76 : decode cX11_comeAnswer 76 = .ok (.aload_n 0, 1) := by decide +kernel
theorem dX11_comeAnswer_77 : decode cX11_comeAnswer 77 = .ok (.aload_n 0, 1) := by decide +kernel
theorem dX11_comeAnswer_78 : decode cX11_comeAnswer 78 = .ok (.getfield 143, 3) := by decide +kernel
theorem dX11_comeAnswer_81 : decode cX11_comeAnswer 81 = .ok (.putfield 194, 3) := by decide +kernel
theorem dX11_comeAnswer_84 : decode cX11_comeAnswer 84 = .ok (.return_, 1) := by decide +kernel
theorem dX11_comeAlert_0 : decode cX11_comeAlert 0 = .ok (.aload_n 0, 1) := by decide +kernel
theorem dX11_comeAlert_1 : decode cX11_comeAlert 1 = .ok (.getfield 65, 3) := by decide +kernel
theorem dX11_comeAlert_4 : decode cX11_comeAlert 4 = .ok (.iconst 0, 1) := by decide +kernel
theorem dX11_comeAlert_5 : decode cX11_comeAlert 5 = .ok (.aload_n 0, 1) := by decide +kernel
theorem dX11_comeAlert_6 : decode cX11_comeAlert 6 = .ok (.getfield 77, 3) := by decide +kernel
theorem dX11_comeAlert_9 : decode cX11_comeAlert 9 = .ok (.bipush 100, 2) := by decide +kernel
theorem dX11_comeAlert_11 : decode cX11_comeAlert 11 = .ok (.aload_n 0, 1) := by decide +kernel
theorem dX11_comeAlert_12 : decode cX11_comeAlert 12 = .ok (.getfield 191, 3) := by decide +kernel
theorem dX11_comeAlert_15 : decode cX11_comeAlert 15 = .ok (.imul, 1) := by decide +kernel
theorem dX11_comeAlert_16 : decode cX11_comeAlert 16 = .ok (.aload_n 0, 1) := by decide +kernel
theorem dX11_comeAlert_17 : decode cX11_comeAlert 17 = .ok (.getfield 143, 3) := by decide +kernel
theorem dX11_comeAlert_20 : decode cX11_comeAlert 20 = .ok (.invokestatic 181, 3) := by decide +kernel
theorem dX11_comeAlert_23 : decode cX11_comeAlert 23 = .ok (.aload_n 0, 1) := by decide +kernel
theorem dX11_comeAlert_24 : decode cX11_comeAlert 24 = .ok (.getfield 80, 3) := by decide +kernel
theorem dX11_comeAlert_27 : decode cX11_comeAlert 27 = .ok (.aload_n 0, 1) := by decide +kernel
theorem dX11_comeAlert_28 : decode cX11_comeAlert 28 = .ok (.getfield 191, 3) := by decide +kernel
theorem dX11_comeAlert_31 : decode cX11_comeAlert 31 = .ok (.aload_n 0, 1) := by decide +kernel
theorem dX11_comeAlert_32 : decode cX11_comeAlert 32 = .ok (.getfield 143, 3) := by decide +kernel
theorem dX11_comeAlert_35 : decode cX11_comeAlert 35 = .ok (.iastore, 1) := by decide +kernel
theorem dX11_comeAlert_36 : decode cX11_comeAlert 36 = .ok (.aload_n 0, 1) := by decide +kernel
theorem dX11_comeAlert_37 : decode cX11_comeAlert 37 = .ok (.dup, 1) := by decide +kernel
theorem dX11_comeAlert_38 : decode cX11_comeAlert 38 = .ok (.getfield 191, 3) := by decide +kernel
theorem dX11_comeAlert_41 : decode cX11_comeAlert 41 = .ok (.iconst 1, 1) := by decide +kernel
theorem dX11_comeAlert_42 : decode cX11_comeAlert 42 = .ok (.iadd, 1) := by decide +kernel
theorem dX11_comeAlert_43 : decode cX11_comeAlert 43 = .ok (.putfield 191, 3) := by decide +kernel
theorem dX11_comeAlert_46 : decode cX11_comeAlert 46 = .ok (.aload_n 0, 1) := by decide +kernel
theorem dX11_comeAlert_47 : decode cX11_comeAlert 47 = .ok (.getfield 108, 3) := by decide +kernel
theorem dX11_comeAlert_50 : decode cX11_comeAlert 50 = .ok (.ifCond .ne 21, 3) := by decide +kernel
theorem dX11_comeAlert_53 : decode cX11_comeAlert 53 = .ok (.aload_n 0, 1) := by decide +kernel
theorem dX11_comeAlert_54 : decode cX11_comeAlert 54 = .ok (.iconst (-1), 1) := by decide +kernel
theorem dX11_comeAlert_55 : decode cX11_comeAlert 55 = .ok (.putfield 108, 3) := by decide +kernel
theorem dX11_comeAlert_58 : decode cX11_comeAlert 58 = .ok (.aload_n 0, 1) := by decide +kernel
theorem dX11_comeAlert_59 : decode cX11_comeAlert 59 = .ok (.dup, 1) := by decide +kernel
theorem dX11_comeAlert_60 : decode cX11_comeAlert 60 = .ok (.getfield 188, 3) := by decide +kernel
theorem dX11_comeAlert_63 : decode cX11_comeAlert 63 = .ok (.iconst 1, 1) := by decide +kernel
theorem dX11_comeAlert_64 : decode cX11_comeAlert 64 = .ok (.iadd, 1) := by decide +kernel
theorem dX11_comeAlert_65 : decode cX11_comeAlert 65 = .ok (.putfield 188, 3) := by decide +kernel
theorem dX11_comeAlert_68 : decode cX11_comeAlert 68 = .ok (.goto 85, 3) := by decide +kernel
theorem dX11_comeAlert_71 : decode cX11_comeAlert 71 = .ok (.aload_n 0, 1) := by decide +kernel
theorem dX11_comeAlert_72 : decode cX11_comeAlert 72 = .ok (.getfield 108, 3) := by decide +kernel
theorem dX11_comeAlert_75 : decode cX11_comeAlert 75 = .ok (.iconst 1, 1) := by decide +kernel
theorem dX11_comeAlert_76 : decode cX11_comeAlert 76 = .ok (.if_icmp .ne 77, 3) := by decide +kernel
theorem dX11_comeAlert_79 : decode cX11_comeAlert 79 = .ok (.aload_n 0, 1) := by decide +kernel
theorem dX11_comeAlert_80 : decode cX11_comeAlert 80 = .ok (.getfield 197, 3) := by decide +kernel
theorem dX11_comeAlert_83 : decode cX11_comeAlert 83 = .ok (.istore_n 1, 1) := by decide +kernel
theorem dX11_comeAlert_84 : decode cX11_comeAlert 84 = .ok (.aload_n 0, 1) := by decide +kernel
theorem dX11_comeAlert_85 : decode cX11_comeAlert 85 = .ok (.getfield 83, 3) := by decide +kernel
theorem dX11_comeAlert_88 : decode cX11_comeAlert 88 = .ok (.aload_n 0, 1) := by decide +kernel
theorem dX11_comeAlert_89 : decode cX11_comeAlert 89 = .ok (.getfield 197, 3) := by decide +kernel
theorem dX11_comeAlert_92 : decode cX11_comeAlert 92 = .ok (.iaload, 1) := by decide +kernel
theorem dX11_comeAlert_93 : decode cX11_comeAlert 93 = .ok (.bipush 32, 2) := by decide +kernel
theorem dX11_comeAlert_95 : decode cX11_comeAlert 95 = .ok (.if_icmp .eq 26, 3) := by decide +kernel
theorem dX11_comeAlert_98 : decode cX11_comeAlert 98 = .ok (.iload_n 1, 1) := by decide +kernel
theorem dX11_comeAlert_99 : decode cX11_comeAlert 99 = .ok (.ifCond .le 22, 3) := by decide +kernel
theorem dX11_comeAlert_102 : decode cX11_comeAlert 102 = .ok (.aload_n 0, 1) := by decide +kernel
theorem dX11_comeAlert_103 : decode cX11_comeAlert 103 = .ok (.getfield 83, 3) := by decide +kernel
theorem dX11_comeAlert_106 : decode cX11_comeAlert 106 = .ok (.iload_n 1, 1) := by decide +kernel
theorem dX11_comeAlert_107 : decode cX11_comeAlert 107 = .ok (.iconst 1, 1) := by decide +kernel
theorem dX11_comeAlert_108 : decode cX11_comeAlert 108 = .ok (.isub, 1) := by decide +kernel
theorem dX11_comeAlert_109 : decode cX11_comeAlert 109 = .ok (.iaload, 1) := by decide +kernel
theorem dX11_comeAlert_110 : decode cX11_comeAlert 110 = .ok (.bipush 32, 2) := by decide +kernel
theorem dX11_comeAlert_112 : decode cX11_comeAlert 112 = .ok (.if_icmp .eq 9, 3) := by decide +kernel
theorem dX11_comeAlert_115 : decode cX11_comeAlert 115 = .ok (.iinc 1 (-1), 3) := by decide +kernel
theorem dX11_comeAlert_118 : decode cX11_comeAlert 118 = .ok (.goto (-34), 3) := by decide +kernel
theorem dX11_comeAlert_121 : decode cX11_comeAlert 121 = .ok (.aload_n 0, 1) := by decide +kernel
theorem dX11_comeAlert_122 : decode cX11_comeAlert 122 = .ok (.aload_n 0, 1) := by decide +kernel
theorem dX11_comeAlert_123 : decode cX11_comeAlert 123 = .ok (.getfield 200, 3) := by decide +kernel
theorem dX11_comeAlert_126 : decode cX11_comeAlert 126 = .ok (.iload_n 1, 1) := by decide +kernel
theorem dX11_comeAlert_127 : decode cX11_comeAlert 127 = .ok (.isub, 1) := by decide +kernel
theorem dX11_comeAlert_128 : decode cX11_comeAlert 128 = .ok (.putfield 194, 3) := by decide +kernel
theorem dX11_comeAlert_131 : decode cX11_comeAlert 131 = .ok (.aload_n 0, 1) := by decide +kernel
theorem dX11_comeAlert_132 : decode cX11_comeAlert 132 = .ok (.getfield 83, 3) := by decide +kernel
theorem dX11_comeAlert_135 : decode cX11_comeAlert 135 = .ok (.iload_n 1, 1) := by decide +kernel
theorem dX11_comeAlert_136 : decode cX11_comeAlert 136 = .ok (.aload_n 0, 1) := by decide +kernel
theorem dX11_comeAlert_137 : decode cX11_comeAlert 137 = .ok (.getfield 74, 3) := by decide +kernel
theorem dX11_comeAlert_140 : decode cX11_comeAlert 140 = .ok (.iconst 0, 1) := by decide +kernel
theorem dX11_comeAlert_141 : decode cX11_comeAlert 141 = .ok (.aload_n 0, 1) := by decide +kernel
theorem dX11_comeAlert_142 : decode cX11_comeAlert 142 = .ok (.getfield 194, 3) := by decide +kernel
theorem dX11_comeAlert_145 : decode cX11_comeAlert 145 = .ok (.invokestatic 181, 3) := by decide +kernel
theorem dX11_comeAlert_148 : decode cX11_comeAlert 148 = .ok (.aload_n 0, 1) := by decide +kernel
theorem dX11_comeAlert_149 : decode cX11_comeAlert 149 = .ok (.iconst (-1), 1) := by decide +kernel
theorem dX11_comeAlert_150 : decode cX11_comeAlert 150 = .ok (.putfield 108, 3) := by decide +kernel
theorem dX11_comeAlert_153 : decode cX11_comeAlert 153 = .ok (.return_, 1) := by decide +kernel
theorem dX11_hush_0 : decode cX11_hush 0 = .ok (.aload_n 0, 1) := by decide +kernel
theorem dX11_hush_1 : decode cX11_hush 1 = .ok (.dup, 1) := by decide +kernel
theorem dX11_hush_2 : decode cX11_hush 2 = .ok (.getfield 188, 3) := by decide +kernel
theorem dX11_hush_5 : decode cX11_hush 5 = .ok (.aload_n 0, 1) := by decide +kernel
theorem dX11_hush_6 : decode cX11_hush 6 = .ok (.getfield 178, 3) := by decide +kernel
theorem dX11_hush_9 : decode cX11_hush 9 = .ok (.aload_n 0, 1) := by decide +kernel
theorem dX11_hush_10 : decode cX11_hush 10 = .ok (.getfield 194, 3) := by decide +kernel
theorem dX11_hush_13 : decode cX11_hush 13 = .ok (.ifCond .le 7, 3) := by decide +kernel
theorem dX11_hush_16 : decode cX11_hush 16 = .ok (.iconst 1, 1) := by decide +kernel
theorem dX11_hush_17 : decode cX11_hush 17 = .ok (.goto 4, 3) := by decide +kernel
theorem dX11_hush_20 : decode cX11_hush 20 = .ok (.iconst 0, 1) := by decide +kernel
theorem dX11_hush_21 : decode cX11_hush 21 = .ok (.iadd, 1) := by decide +kernel
theorem dX11_hush_22 : decode cX11_hush 22 = .ok (.aload_n 0, 1) := by decide +kernel
theorem dX11_hush_23 : decode cX11_hush 23 = .ok (.getfield 108, 3) := by decide +kernel
theorem dX11_hush_26 : decode cX11_hush 26 = .ok (.ifCond .eq 11, 3) := by decide +kernel
theorem dX11_hush_29 : decode cX11_hush 29 = .ok (.aload_n 0, 1) := by decide +kernel
theorem dX11_hush_30 : decode cX11_hush 30 = .ok (.getfield 108, 3) := by decide +kernel
theorem dX11_hush_33 : decode cX11_hush 33 = .ok (.iconst 1, 1) := by decide +kernel
theorem dX11_hush_34 : decode cX11_hush 34 = .ok (.if_icmp .ne 7, 3) := by decide +kernel
theorem dX11_hush_37 : decode cX11_hush 37 = .ok (.iconst 1, 1) := by decide +kernel
theorem dX11_hush_38 : decode cX11_hush 38 = .ok (.goto 4, 3) := by decide +kernel
theorem dX11_hush_41 : decode cX11_hush 41 = .ok (.iconst 0, 1) := by decide +kernel
theorem dX11_hush_42 : decode cX11_hush 42 = .ok (.iadd, 1) := by decide +kernel
theorem dX11_hush_43 : decode cX11_hush 43 = .ok (.iadd, 1) := by decide +kernel
theorem dX11_hush_44 : decode cX11_hush 44 = .ok (.putfield 188, 3) := by decide +kernel
theorem dX11_hush_47 : decode cX11_hush 47 = .ok (.aload_n 0, 1) := by decide +kernel
theorem dX11_hush_48 : decode cX11_hush 48 = .ok (.iconst 0, 1) := by decide +kernel
theorem dX11_hush_49 : decode cX11_hush 49 = .ok (.putfield 178, 3) := by decide +kernel
theorem dX11_hush_52 : decode cX11_hush 52 = .ok (.aload_n 0, 1) := by decide +kernel
theorem dX11_hush_53 : decode cX11_hush 53 = .ok (.iconst 0, 1) := by decide +kernel
theorem dX11_hush_54 : decode cX11_hush 54 = .ok (.putfield 194, 3) := by decide +kernel
theorem dX11_hush_57 : decode cX11_hush 57 = .ok (.aload_n 0, 1) := by decide +kernel
theorem dX11_hush_58 : decode cX11_hush 58 = .ok (.aload_n 0, 1) := by decide +kernel
theorem dX11_hush_59 : decode cX11_hush 59 = .ok (.getfield 108, 3) := by decide +kernel
theorem dX11_hush_62 : decode cX11_hush 62 = .ok (.iconst 2, 1) := by decide +kernel
theorem dX11_hush_63 : decode cX11_hush 63 = .ok (.if_icmp .ne 7, 3) := by decide +kernel
theorem dX11_hush_66 : decode cX11_hush 66 = .ok (.iconst 2, 1) := by decide +kernel
theorem dX11_hush_67 : decode cX11_hush 67 = .ok (.goto 4, 3) := by decide +kernel
theorem dX11_hush_70 : decode cX11_hush 70 = .ok (.iconst (-1), 1) := by decide +kernel
theorem dX11_hush_71 : decode cX11_hush 71 = .ok (.putfield 108, 3) := by decide +kernel
theorem dX11_hush_74 : decode cX11_hush 74 = .ok (.return_, 1) := by decide +kernel
theorem dX11_say_0 : decode cX11_say 0 = .ok (.aload_n 0, 1) := by decide +kernel
theorem dX11_say_1 : decode cX11_say 1 = .ok (.iconst 0, 1) := by decide +kernel
theorem dX11_say_2 : decode cX11_say 2 = .ok (.putfield 143, 3) := by decide +kernel
theorem dX11_say_5 : decode cX11_say 5 = .ok (.aload_n 0, 1) := by decide +kernel
theorem dX11_say_6 : decode cX11_say 6 = .ok (.lload_n 1, 1) := by decide +kernel
theorem dX11_say_7 : decode cX11_say 7 = .ok (.invokevirtual 160, 3) := by decide +kernel
theorem dX11_say_10 : decode cX11_say 10 = .ok (.aload_n 0, 1) := by decide +kernel
theorem dX11_say_11 : decode cX11_say 11 = .ok (.invokevirtual 203, 3) := by decide +kernel
theorem dX11_say_14 : decode cX11_say 14 = .ok (.return_, 1) := by decide +kernel
theorem dX11_canNews_0 : decode cX11_canNews 0 = .ok (.aload_n 0, 1) := by decide +kernel
theorem dX11_canNews_1 : decode cX11_canNews 1 = .ok (.getfield 53, 3) := by decide +kernel
theorem dX11_canNews_4 : decode cX11_canNews 4 = .ok (.iload_n 1, 1) := by decide +kernel
theorem dX11_canNews_5 : decode cX11_canNews 5 = .ok (.iaload, 1) := by decide +kernel
theorem dX11_canNews_6 : decode cX11_canNews 6 = .ok (.iconst (-1), 1) := by decide +kernel
theorem dX11_canNews_7 : decode cX11_canNews 7 = .ok (.if_icmp .eq 18, 3) := by decide +kernel
theorem dX11_canNews_10 : decode cX11_canNews 10 = .ok (.aload_n 0, 1) := by decide +kernel
theorem dX11_canNews_11 : decode cX11_canNews 11 = .ok (.getfield 206, 3) := by decide +kernel
theorem dX11_canNews_14 : decode cX11_canNews 14 = .ok (.aload_n 0, 1) := by decide +kernel
theorem dX11_canNews_15 : decode cX11_canNews 15 = .ok (.getfield 53, 3) := by decide +kernel
theorem dX11_canNews_18 : decode cX11_canNews 18 = .ok (.iload_n 1, 1) := by decide +kernel
theorem dX11_canNews_19 : decode cX11_canNews 19 = .ok (.iaload, 1) := by decide +kernel
theorem dX11_canNews_20 : decode cX11_canNews 20 = .ok (.isub, 1) := by decide +kernel
theorem dX11_canNews_21 : decode cX11_canNews 21 = .ok (.iconst 5, 1) := by decide +kernel
theorem dX11_canNews_22 : decode cX11_canNews 22 = .ok (.if_icmp .lt 7, 3) := by decide +kernel
theorem dX11_canNews_25 : decode cX11_canNews 25 = .ok (.iconst 1, 1) := by decide +kernel
theorem dX11_canNews_26 : decode cX11_canNews 26 = .ok (.goto 4, 3) := by decide +kernel
theorem dX11_canNews_29 : decode cX11_canNews 29 = .ok (.iconst 0, 1) := by decide +kernel
theorem dX11_canNews_30 : decode cX11_canNews 30 = .ok (.ireturn, 1) := by decide +kernel
theorem dX11_swallow_0 : decode cX11_swallow 0 = .ok (.aload_n 0, 1) := by decide +kernel
theorem dX11_swallow_1 : decode cX11_swallow 1 = .ok (.dup, 1) := by decide +kernel
theorem dX11_swallow_2 : decode cX11_swallow 2 = .ok (.getfield 221, 3) := by decide +kernel
theorem dX11_swallow_5 : decode cX11_swallow 5 = .ok (.aload_n 0, 1) := by decide +kernel
theorem dX11_swallow_6 : decode cX11_swallow 6 = .ok (.getfield 56, 3) := by decide +kernel
theorem dX11_swallow_9 : decode cX11_swallow 9 = .ok (.iload_n 1, 1) := by decide +kernel
theorem dX11_swallow_10 : decode cX11_swallow 10 = .ok (.iaload, 1) := by decide +kernel
theorem dX11_swallow_11 : decode cX11_swallow 11 = .ok (.ifCond .le 7, 3) := by decide +kernel
theorem dX11_swallow_14 : decode cX11_swallow 14 = .ok (.iconst 1, 1) := by decide +kernel
theorem dX11_swallow_15 : decode cX11_swallow 15 = .ok (.goto 4, 3) := by decide +kernel
theorem dX11_swallow_18 : decode cX11_swallow 18 = .ok (.iconst 0, 1) := by decide +kernel
theorem dX11_swallow_19 : decode cX11_swallow 19 = .ok (.iadd, 1) := by decide +kernel
theorem dX11_swallow_20 : decode cX11_swallow 20 = .ok (.putfield 221, 3) := by decide +kernel
theorem dX11_swallow_23 : decode cX11_swallow 23 = .ok (.aload_n 0, 1) := by decide +kernel
theorem dX11_swallow_24 : decode cX11_swallow 24 = .ok (.getfield 56, 3) := by decide +kernel
theorem dX11_swallow_27 : decode cX11_swallow 27 = .ok (.iload_n 1, 1) := by decide +kernel
theorem dX11_swallow_28 : decode cX11_swallow 28 = .ok (.iconst 0, 1) := by decide +kernel
theorem dX11_swallow_29 : decode cX11_swallow 29 = .ok (.iastore, 1) := by decide +kernel
theorem dX11_swallow_30 : decode cX11_swallow 30 = .ok (.return_, 1) := by decide +kernel
abbrev mX11_takeNews : gM := (yX11_takeNews, cX11_takeNews, 2, (Option.none : Option FieldType), [])
theorem caX11_takeNews : cal mX11_takeNews 0 := ⟨xw 1674 (by decide +kernel) rfl, xw 102 (by decide +kernel) rfl, by decide, by decide +kernel⟩
theorem cvX11_takeNews : calV mX11_takeNews := ⟨xw 1673 (by decide +kernel) rfl, xw 47 (by decide +kernel) rfl⟩
abbrev mX11_comeNews : gM := (yX11_comeNews, cX11_comeNews, 1, (Option.none : Option FieldType), [])
theorem caX11_comeNews : cal mX11_comeNews 0 := ⟨xw 1670 (by decide +kernel) rfl, xw 102 (by decide +kernel) rfl, by decide, by decide +kernel⟩
theorem cvX11_comeNews : calV mX11_comeNews := ⟨xw 1669 (by decide +kernel) rfl, xw 46 (by decide +kernel) rfl⟩
abbrev mX11_takeAlert : gM := (yX11_takeAlert, cX11_takeAlert, 2, (Option.none : Option FieldType), [])
theorem caX11_takeAlert : cal mX11_takeAlert 0 := ⟨xw 1990 (by decide +kernel) rfl, xw 102 (by decide +kernel) rfl, by decide, by decide +kernel⟩
theorem cvX11_takeAlert : calV mX11_takeAlert := ⟨xw 1989 (by decide +kernel) rfl, xw 85 (by decide +kernel) rfl⟩
abbrev mX11_comeAnswer : gM := (yX11_comeAnswer, cX11_comeAnswer, 1, (Option.none : Option FieldType), [])
theorem caX11_comeAnswer : cal mX11_comeAnswer 0 := ⟨xw 1871 (by decide +kernel) rfl, xw 102 (by decide +kernel) rfl, by decide, by decide +kernel⟩
theorem cvX11_comeAnswer : calV mX11_comeAnswer := ⟨xw 1870 (by decide +kernel) rfl, xw 68 (by decide +kernel) rfl⟩
abbrev mX11_comeAlert : gM := (yX11_comeAlert, cX11_comeAlert, 2, (Option.none : Option FieldType), [])
theorem caX11_comeAlert : cal mX11_comeAlert 0 := ⟨xw 1662 (by decide +kernel) rfl, xw 102 (by decide +kernel) rfl, by decide, by decide +kernel⟩
theorem cvX11_comeAlert : calV mX11_comeAlert := ⟨xw 1661 (by decide +kernel) rfl, xw 44 (by decide +kernel) rfl⟩
abbrev mX11_hush : gM := (yX11_hush, cX11_hush, 1, (Option.none : Option FieldType), [])
theorem caX11_hush : cal mX11_hush 0 := ⟨xw 1905 (by decide +kernel) rfl, xw 102 (by decide +kernel) rfl, by decide, by decide +kernel⟩
theorem cvX11_hush : calV mX11_hush := ⟨xw 1904 (by decide +kernel) rfl, xw 75 (by decide +kernel) rfl⟩
abbrev mX11_say : gM := (yX11_say, cX11_say, 3, (Option.none : Option FieldType), [])
theorem caX11_say : cal mX11_say 1 := ⟨xw 1867 (by decide +kernel) rfl, xw 102 (by decide +kernel) rfl, by decide, by decide +kernel⟩
theorem cvX11_say : calV mX11_say := ⟨xw 1866 (by decide +kernel) rfl, xw 67 (by decide +kernel) rfl⟩
abbrev mX11_canNews : gM := (yX11_canNews, cX11_canNews, 2, (Option.some FieldType.boolean), [])
theorem caX11_canNews : cal mX11_canNews 1 := ⟨xw 1666 (by decide +kernel) rfl, xw 102 (by decide +kernel) rfl, by decide, by decide +kernel⟩
theorem cvX11_canNews : calV mX11_canNews := ⟨xw 1665 (by decide +kernel) rfl, xw 45 (by decide +kernel) rfl⟩
abbrev mX11_swallow : gM := (yX11_swallow, cX11_swallow, 2, (Option.none : Option FieldType), [])
theorem caX11_swallow : cal mX11_swallow 1 := ⟨xw 1678 (by decide +kernel) rfl, xw 102 (by decide +kernel) rfl, by decide, by decide +kernel⟩
theorem cvX11_swallow : calV mX11_swallow := ⟨xw 1677 (by decide +kernel) rfl, xw 48 (by decide +kernel) rfl⟩
theorem flX11_178 : fl RX11 178 10 32 := ⟨by decide, by decide, xw 1429 (by decide +kernel) rfl⟩
theorem lkX11_181 : Cond.methodLink RX11 181 yX11_copy ∈ XW := xw 1592 (by decide +kernel) rfl
theorem lkX11_185 : Cond.methodLink RX11 185 yX11_takeNews ∈ XW := xw 1671 (by decide +kernel) rfl
theorem flX11_188 : fl RX11 188 10 44 := ⟨by decide, by decide, xw 1441 (by decide +kernel) rfl⟩
theorem flX11_191 : fl RX11 191 10 37 := ⟨by decide, by decide, xw 1434 (by decide +kernel) rfl⟩
theorem flX11_194 : fl RX11 194 10 34 := ⟨by decide, by decide, xw 1431 (by decide +kernel) rfl⟩
theorem flX11_197 : fl RX11 197 10 41 := ⟨by decide, by decide, xw 1438 (by decide +kernel) rfl⟩
theorem flX11_200 : fl RX11 200 10 40 := ⟨by decide, by decide, xw 1437 (by decide +kernel) rfl⟩
theorem lkX11_203 : Cond.methodLink RX11 203 yX11_comeAnswer ∈ XW := xw 1868 (by decide +kernel) rfl
theorem flX11_206 : fl RX11 206 10 46 := ⟨by decide, by decide, xw 1443 (by decide +kernel) rfl⟩
theorem flX11_221 : fl RX11 221 10 45 := ⟨by decide, by decide, xw 1442 (by decide +kernel) rfl⟩
/-! BrailleDeskModel.takeNews -/
theorem lX11_takeNews_12 {G : gG} {Q : hQ} {P : mm → Prop} {k n : Nat} (a0 : Nat) (h : hp) (hJ : ∀ q : mm, P q → gV G mX11_takeNews 1 Q 67 [none, none] [] (k) (n) (jn a0 h q)) : ∀ (fu : Nat) (a : (Int32 × mm)), okB (itr (fX11_takeNews_B12) fu a) P → gV G mX11_takeNews 1 Q 12 [some (sr (some a0)), some (si a.1)] [] (k) (n) (jn a0 h a.2) :=
  lpg (X := fun (a : (Int32 × mm)) => gV G mX11_takeNews 1 Q 12 [some (sr (some a0)), some (si a.1)] [] (k) (n) (jn a0 h a.2)) (fun a P2 hL hE hF => by
    delta fX11_takeNews_B12 at hF
    refine v_iload_n (pc := 12) (i := 1) dX11_takeNews_12 rfl rfl ?_
    refine v_aload_n (pc := 13) (i := 0) dX11_takeNews_13 rfl rfl ?_
    refine m_getI (pc := 14) (j := 32) dX11_takeNews_14 flX11_178 rfl rfl ?_
    refine v_icmp_ge (pc := 17) 67 dX11_takeNews_17 rfl (fun hc => ?_) (fun hc => ?_)
    · replace hF := (okB_if hF).1 hc
      exact v_lle [none, none] trivial (hJ a.2 (hE _ (okB_some hF)))
    replace hF := (okB_if hF).2 hc
    refine v_aload_n (pc := 20) (i := 0) dX11_takeNews_20 rfl rfl ?_
    refine m_getA (pc := 21) (j := 31) dX11_takeNews_21 flX11_71 rfl (by decide) ?_
    refine v_iload_n (pc := 24) (i := 1) dX11_takeNews_24 rfl rfl ?_
    refine v_aload_n (pc := 25) (i := 0) dX11_takeNews_25 rfl rfl ?_
    refine m_getA (pc := 26) (j := 31) dX11_takeNews_26 flX11_71 rfl (by decide) ?_
    refine v_iload_n (pc := 29) (i := 1) dX11_takeNews_29 rfl rfl ?_
    refine v_iconst (pc := 30) (v := (1 : Int32)) dX11_takeNews_30 rfl ?_
    refine v_iadd (pc := 31) dX11_takeNews_31 ?_
    refine m_iald (pc := 32) (j := 31) dX11_takeNews_32 hF (fun x1 hF => ?_)
    refine m_iast (pc := 33) (j := 31) dX11_takeNews_33 hF (fun m2 hF => ?_)
    refine v_aload_n (pc := 34) (i := 0) dX11_takeNews_34 rfl rfl ?_
    refine m_getA (pc := 35) (j := 30) dX11_takeNews_35 flX11_68 rfl (by decide) ?_
    refine v_bipush (pc := 38) (v := (100 : Int32)) dX11_takeNews_38 rfl ?_
    refine v_iload_n (pc := 40) (i := 1) dX11_takeNews_40 rfl rfl ?_
    refine v_iconst (pc := 41) (v := (1 : Int32)) dX11_takeNews_41 rfl ?_
    refine v_iadd (pc := 42) dX11_takeNews_42 ?_
    refine v_imul (pc := 43) dX11_takeNews_43 ?_
    refine v_aload_n (pc := 44) (i := 0) dX11_takeNews_44 rfl rfl ?_
    refine m_getA (pc := 45) (j := 30) dX11_takeNews_45 flX11_68 rfl (by decide) ?_
    refine v_bipush (pc := 48) (v := (100 : Int32)) dX11_takeNews_48 rfl ?_
    refine v_iload_n (pc := 50) (i := 1) dX11_takeNews_50 rfl rfl ?_
    refine v_imul (pc := 51) dX11_takeNews_51 ?_
    refine v_aload_n (pc := 52) (i := 0) dX11_takeNews_52 rfl rfl ?_
    refine m_getA (pc := 53) (j := 31) dX11_takeNews_53 flX11_71 rfl (by decide) ?_
    refine v_iload_n (pc := 56) (i := 1) dX11_takeNews_56 rfl rfl ?_
    refine m_iald (pc := 57) (j := 31) dX11_takeNews_57 hF (fun x3 hF => ?_)
    refine chM_S (a0 := a0) (h := h) (pc := 58) gU (as := [sr (some (a0 + mo 30)), si ((100 : Int32) * (a.1 + (1 : Int32))), sr (some (a0 + mo 30)), si ((100 : Int32) * a.1), si x3]) (st := []) (N := mX11_copy) (k := k) (n := n) (k1 := 0) (n1 := 0) dX11_takeNews_58 lkX11_181 caX11_copy csX11_copy rfl (fun Q1 hq => tX11_copy a0 h 30 ((100 : Int32) * (a.1 + (1 : Int32))) 30 ((100 : Int32) * a.1) x3 m2 Q1 hq) ⟨by decide, by decide⟩ (Nat.le_of_ble_eq_true rfl) rfl hF (fun x4 m5 hF => ?_)
    show gV G mX11_takeNews 1 Q 61 [some (sr (some a0)), some (si a.1)] [] (k) (n) (jn a0 h m5)
    refine v_iinc (pc := 61) (i := 1) (a.1 + (1 : Int32)) [some (sr (some a0)), some (si (a.1 + (1 : Int32)))] dX11_takeNews_61 rfl rfl rfl rfl ?_
    refine v_goto (pc := 64) 12 dX11_takeNews_64 rfl ?_
    exact v_lle [some (sr (some a0)), some (si (a.1 + (1 : Int32)))] ⟨rfl, rfl, trivial⟩ (hL (a.1 + (1 : Int32), m5) (okB_some hF)))
theorem tX11_takeNews {G : gG} (a0 : Nat) (h : hp)  (m : mm) (Q : hQ) (hF : okB (fX11_takeNews m) (pM gU Q a0 h)) : gS G mX11_takeNews 1 0 0 [sr (some a0)] (jn a0 h m) Q := by
  delta fX11_takeNews at hF
  refine gS_at [some (sr (some a0)), none] pl_X11 rfl (Nat.le_of_ble_eq_true rfl) rfl ?_
  refine v_aload_n (pc := 0) (i := 0) dX11_takeNews_0 rfl rfl ?_
  refine v_dup (pc := 1) dX11_takeNews_1 rfl ?_
  refine m_getI (pc := 2) (j := 32) dX11_takeNews_2 flX11_178 rfl rfl ?_
  refine v_iconst (pc := 5) (v := (1 : Int32)) dX11_takeNews_5 rfl ?_
  refine v_isub (pc := 6) dX11_takeNews_6 ?_
  refine m_putI (pc := 7) (j := 32) dX11_takeNews_7 flX11_178 rfl rfl rfl hF (fun m1 hF => ?_)
  refine v_iconst (pc := 10) (v := (0 : Int32)) dX11_takeNews_10 rfl ?_
  refine v_istore_n (pc := 11) (i := 1) [some (sr (some a0)), some (si (0 : Int32))] dX11_takeNews_11 rfl (by decide) rfl rfl ?_
  refine mg (X := fun q2 => gV G mX11_takeNews 1 Q 67 [none, none] [] (0) (0) (jn a0 h q2)) hF (fun _ hj3 hF => v_lle [some (sr (some a0)), some (si (0 : Int32))] ⟨rfl, rfl, trivial⟩ (lX11_takeNews_12 a0 h hj3 FU ((0 : Int32), m1) hF)) (fun q2 hF => ?_)
  exact v_ret (pc := 67) dX11_takeNews_67 rfl (okr hF fun q => q)
/-! BrailleDeskModel.comeNews -/
theorem tX11_comeNews {G : gG} (a0 : Nat) (h : hp)  (m : mm) (Q : hQ) (hF : okB (fX11_comeNews m) (pM gU Q a0 h)) : gS G mX11_comeNews 2 0 0 [sr (some a0)] (jn a0 h m) Q := by
  delta fX11_comeNews at hF
  refine gS_at [some (sr (some a0))] pl_X11 rfl (Nat.le_of_ble_eq_true rfl) rfl ?_
  refine v_aload_n (pc := 0) (i := 0) dX11_comeNews_0 rfl rfl ?_
  refine m_getA (pc := 1) (j := 28) dX11_comeNews_1 flX11_65 rfl (by decide) ?_
  refine v_iconst (pc := 4) (v := (0 : Int32)) dX11_comeNews_4 rfl ?_
  refine v_aload_n (pc := 5) (i := 0) dX11_comeNews_5 rfl rfl ?_
  refine m_getA (pc := 6) (j := 30) dX11_comeNews_6 flX11_68 rfl (by decide) ?_
  refine v_bipush (pc := 9) (v := (100 : Int32)) dX11_comeNews_9 rfl ?_
  refine v_aload_n (pc := 11) (i := 0) dX11_comeNews_11 rfl rfl ?_
  refine m_getI (pc := 12) (j := 32) dX11_comeNews_12 flX11_178 rfl rfl ?_
  refine v_imul (pc := 15) dX11_comeNews_15 ?_
  refine v_aload_n (pc := 16) (i := 0) dX11_comeNews_16 rfl rfl ?_
  refine m_getI (pc := 17) (j := 29) dX11_comeNews_17 flX11_143 rfl rfl ?_
  refine chM_S (a0 := a0) (h := h) (pc := 20) gU (as := [sr (some (a0 + mo 28)), si (0 : Int32), sr (some (a0 + mo 30)), si ((100 : Int32) * (m 32 0)), si (m 29 0)]) (st := []) (N := mX11_copy) (k := 0) (n := 0) (k1 := 0) (n1 := 0) dX11_comeNews_20 lkX11_181 caX11_copy csX11_copy rfl (fun Q1 hq => tX11_copy a0 h 28 (0 : Int32) 30 ((100 : Int32) * (m 32 0)) (m 29 0) m Q1 hq) ⟨by decide, by decide⟩ (Nat.le_of_ble_eq_true rfl) rfl hF (fun x1 m2 hF => ?_)
  show gV G mX11_comeNews 2 Q 23 [some (sr (some a0))] [] (0) (0) (jn a0 h m2)
  refine v_aload_n (pc := 23) (i := 0) dX11_comeNews_23 rfl rfl ?_
  refine m_getA (pc := 24) (j := 31) dX11_comeNews_24 flX11_71 rfl (by decide) ?_
  refine v_aload_n (pc := 27) (i := 0) dX11_comeNews_27 rfl rfl ?_
  refine m_getI (pc := 28) (j := 32) dX11_comeNews_28 flX11_178 rfl rfl ?_
  refine v_aload_n (pc := 31) (i := 0) dX11_comeNews_31 rfl rfl ?_
  refine m_getI (pc := 32) (j := 29) dX11_comeNews_32 flX11_143 rfl rfl ?_
  refine m_iast (pc := 35) (j := 31) dX11_comeNews_35 hF (fun m3 hF => ?_)
  refine v_aload_n (pc := 36) (i := 0) dX11_comeNews_36 rfl rfl ?_
  refine v_dup (pc := 37) dX11_comeNews_37 rfl ?_
  refine m_getI (pc := 38) (j := 32) dX11_comeNews_38 flX11_178 rfl rfl ?_
  refine v_iconst (pc := 41) (v := (1 : Int32)) dX11_comeNews_41 rfl ?_
  refine v_iadd (pc := 42) dX11_comeNews_42 ?_
  refine m_putI (pc := 43) (j := 32) dX11_comeNews_43 flX11_178 rfl rfl rfl hF (fun m4 hF => ?_)
  refine v_aload_n (pc := 46) (i := 0) dX11_comeNews_46 rfl rfl ?_
  refine m_getI (pc := 47) (j := 32) dX11_comeNews_47 flX11_178 rfl rfl ?_
  refine v_bipush (pc := 50) (v := (6 : Int32)) dX11_comeNews_50 rfl ?_
  refine v_icmp_ne (pc := 52) 69 dX11_comeNews_52 rfl (fun hc => ?_) (fun hc => ?_)
  · replace hF := (okB_if hF).2 hc
    exact v_ret (pc := 69) dX11_comeNews_69 rfl (okr hF fun q => q)
  replace hF := (okB_if hF).1 hc
  refine v_aload_n (pc := 55) (i := 0) dX11_comeNews_55 rfl rfl ?_
  refine chM_V (pc := 56) gU (as := []) (st := []) (N := mX11_takeNews) (k := 0) (n := 0) (k1 := 0) (n1 := 0) dX11_comeNews_56 lkX11_185 caX11_takeNews cvX11_takeNews rfl rfl (fun Q1 hq => tX11_takeNews a0 h m4 Q1 hq) ⟨by decide, by decide⟩ (Nat.le_of_ble_eq_true rfl) rfl hF (fun x5 m6 hF => ?_)
  show gV G mX11_comeNews 2 Q 59 [some (sr (some a0))] [] (0) (0) (jn a0 h m6)
  refine v_aload_n (pc := 59) (i := 0) dX11_comeNews_59 rfl rfl ?_
  refine v_dup (pc := 60) dX11_comeNews_60 rfl ?_
  refine m_getI (pc := 61) (j := 44) dX11_comeNews_61 flX11_188 rfl rfl ?_
  refine v_iconst (pc := 64) (v := (1 : Int32)) dX11_comeNews_64 rfl ?_
  refine v_iadd (pc := 65) dX11_comeNews_65 ?_
  refine m_putI (pc := 66) (j := 44) dX11_comeNews_66 flX11_188 rfl rfl rfl hF (fun m7 hF => ?_)
  exact v_ret (pc := 69) dX11_comeNews_69 rfl (okr hF fun q => q)
/-! BrailleDeskModel.takeAlert -/
theorem lX11_takeAlert_12 {G : gG} {Q : hQ} {P : mm → Prop} {k n : Nat} (a0 : Nat) (h : hp) (hJ : ∀ q : mm, P q → gV G mX11_takeAlert 1 Q 67 [none, none] [] (k) (n) (jn a0 h q)) : ∀ (fu : Nat) (a : (Int32 × mm)), okB (itr (fX11_takeAlert_B12) fu a) P → gV G mX11_takeAlert 1 Q 12 [some (sr (some a0)), some (si a.1)] [] (k) (n) (jn a0 h a.2) :=
  lpg (X := fun (a : (Int32 × mm)) => gV G mX11_takeAlert 1 Q 12 [some (sr (some a0)), some (si a.1)] [] (k) (n) (jn a0 h a.2)) (fun a P2 hL hE hF => by
    delta fX11_takeAlert_B12 at hF
    refine v_iload_n (pc := 12) (i := 1) dX11_takeAlert_12 rfl rfl ?_
    refine v_aload_n (pc := 13) (i := 0) dX11_takeAlert_13 rfl rfl ?_
    refine m_getI (pc := 14) (j := 37) dX11_takeAlert_14 flX11_191 rfl rfl ?_
    refine v_icmp_ge (pc := 17) 67 dX11_takeAlert_17 rfl (fun hc => ?_) (fun hc => ?_)
    · replace hF := (okB_if hF).1 hc
      exact v_lle [none, none] trivial (hJ a.2 (hE _ (okB_some hF)))
    replace hF := (okB_if hF).2 hc
    refine v_aload_n (pc := 20) (i := 0) dX11_takeAlert_20 rfl rfl ?_
    refine m_getA (pc := 21) (j := 36) dX11_takeAlert_21 flX11_80 rfl (by decide) ?_
    refine v_iload_n (pc := 24) (i := 1) dX11_takeAlert_24 rfl rfl ?_
    refine v_aload_n (pc := 25) (i := 0) dX11_takeAlert_25 rfl rfl ?_
    refine m_getA (pc := 26) (j := 36) dX11_takeAlert_26 flX11_80 rfl (by decide) ?_
    refine v_iload_n (pc := 29) (i := 1) dX11_takeAlert_29 rfl rfl ?_
    refine v_iconst (pc := 30) (v := (1 : Int32)) dX11_takeAlert_30 rfl ?_
    refine v_iadd (pc := 31) dX11_takeAlert_31 ?_
    refine m_iald (pc := 32) (j := 36) dX11_takeAlert_32 hF (fun x1 hF => ?_)
    refine m_iast (pc := 33) (j := 36) dX11_takeAlert_33 hF (fun m2 hF => ?_)
    refine v_aload_n (pc := 34) (i := 0) dX11_takeAlert_34 rfl rfl ?_
    refine m_getA (pc := 35) (j := 35) dX11_takeAlert_35 flX11_77 rfl (by decide) ?_
    refine v_bipush (pc := 38) (v := (100 : Int32)) dX11_takeAlert_38 rfl ?_
    refine v_iload_n (pc := 40) (i := 1) dX11_takeAlert_40 rfl rfl ?_
    refine v_iconst (pc := 41) (v := (1 : Int32)) dX11_takeAlert_41 rfl ?_
    refine v_iadd (pc := 42) dX11_takeAlert_42 ?_
    refine v_imul (pc := 43) dX11_takeAlert_43 ?_
    refine v_aload_n (pc := 44) (i := 0) dX11_takeAlert_44 rfl rfl ?_
    refine m_getA (pc := 45) (j := 35) dX11_takeAlert_45 flX11_77 rfl (by decide) ?_
    refine v_bipush (pc := 48) (v := (100 : Int32)) dX11_takeAlert_48 rfl ?_
    refine v_iload_n (pc := 50) (i := 1) dX11_takeAlert_50 rfl rfl ?_
    refine v_imul (pc := 51) dX11_takeAlert_51 ?_
    refine v_aload_n (pc := 52) (i := 0) dX11_takeAlert_52 rfl rfl ?_
    refine m_getA (pc := 53) (j := 36) dX11_takeAlert_53 flX11_80 rfl (by decide) ?_
    refine v_iload_n (pc := 56) (i := 1) dX11_takeAlert_56 rfl rfl ?_
    refine m_iald (pc := 57) (j := 36) dX11_takeAlert_57 hF (fun x3 hF => ?_)
    refine chM_S (a0 := a0) (h := h) (pc := 58) gU (as := [sr (some (a0 + mo 35)), si ((100 : Int32) * (a.1 + (1 : Int32))), sr (some (a0 + mo 35)), si ((100 : Int32) * a.1), si x3]) (st := []) (N := mX11_copy) (k := k) (n := n) (k1 := 0) (n1 := 0) dX11_takeAlert_58 lkX11_181 caX11_copy csX11_copy rfl (fun Q1 hq => tX11_copy a0 h 35 ((100 : Int32) * (a.1 + (1 : Int32))) 35 ((100 : Int32) * a.1) x3 m2 Q1 hq) ⟨by decide, by decide⟩ (Nat.le_of_ble_eq_true rfl) rfl hF (fun x4 m5 hF => ?_)
    show gV G mX11_takeAlert 1 Q 61 [some (sr (some a0)), some (si a.1)] [] (k) (n) (jn a0 h m5)
    refine v_iinc (pc := 61) (i := 1) (a.1 + (1 : Int32)) [some (sr (some a0)), some (si (a.1 + (1 : Int32)))] dX11_takeAlert_61 rfl rfl rfl rfl ?_
    refine v_goto (pc := 64) 12 dX11_takeAlert_64 rfl ?_
    exact v_lle [some (sr (some a0)), some (si (a.1 + (1 : Int32)))] ⟨rfl, rfl, trivial⟩ (hL (a.1 + (1 : Int32), m5) (okB_some hF)))
theorem tX11_takeAlert {G : gG} (a0 : Nat) (h : hp)  (m : mm) (Q : hQ) (hF : okB (fX11_takeAlert m) (pM gU Q a0 h)) : gS G mX11_takeAlert 1 0 0 [sr (some a0)] (jn a0 h m) Q := by
  delta fX11_takeAlert at hF
  refine gS_at [some (sr (some a0)), none] pl_X11 rfl (Nat.le_of_ble_eq_true rfl) rfl ?_
  refine v_aload_n (pc := 0) (i := 0) dX11_takeAlert_0 rfl rfl ?_
  refine v_dup (pc := 1) dX11_takeAlert_1 rfl ?_
  refine m_getI (pc := 2) (j := 37) dX11_takeAlert_2 flX11_191 rfl rfl ?_
  refine v_iconst (pc := 5) (v := (1 : Int32)) dX11_takeAlert_5 rfl ?_
  refine v_isub (pc := 6) dX11_takeAlert_6 ?_
  refine m_putI (pc := 7) (j := 37) dX11_takeAlert_7 flX11_191 rfl rfl rfl hF (fun m1 hF => ?_)
  refine v_iconst (pc := 10) (v := (0 : Int32)) dX11_takeAlert_10 rfl ?_
  refine v_istore_n (pc := 11) (i := 1) [some (sr (some a0)), some (si (0 : Int32))] dX11_takeAlert_11 rfl (by decide) rfl rfl ?_
  refine mg (X := fun q2 => gV G mX11_takeAlert 1 Q 67 [none, none] [] (0) (0) (jn a0 h q2)) hF (fun _ hj3 hF => v_lle [some (sr (some a0)), some (si (0 : Int32))] ⟨rfl, rfl, trivial⟩ (lX11_takeAlert_12 a0 h hj3 FU ((0 : Int32), m1) hF)) (fun q2 hF => ?_)
  exact v_ret (pc := 67) dX11_takeAlert_67 rfl (okr hF fun q => q)
/-! BrailleDeskModel.comeAnswer -/
theorem tX11_comeAnswer {G : gG} (a0 : Nat) (h : hp)  (m : mm) (Q : hQ) (hF : okB (fX11_comeAnswer m) (pM gU Q a0 h)) : gS G mX11_comeAnswer 1 0 0 [sr (some a0)] (jn a0 h m) Q := by
  delta fX11_comeAnswer at hF
  refine gS_at [some (sr (some a0))] pl_X11 rfl (Nat.le_of_ble_eq_true rfl) rfl ?_
  refine v_aload_n (pc := 0) (i := 0) dX11_comeAnswer_0 rfl rfl ?_
  refine m_getI (pc := 1) (j := 29) dX11_comeAnswer_1 flX11_143 rfl rfl ?_
  refine v_if_ne (pc := 4) 8 dX11_comeAnswer_4 rfl (fun hc => ?_) (fun hc => ?_)
  · replace hF := (okB_if hF).2 hc
    refine v_aload_n (pc := 8) (i := 0) dX11_comeAnswer_8 rfl rfl ?_
    refine v_dup (pc := 9) dX11_comeAnswer_9 rfl ?_
    refine m_getI (pc := 10) (j := 44) dX11_comeAnswer_10 flX11_188 rfl rfl ?_
    refine v_aload_n (pc := 13) (i := 0) dX11_comeAnswer_13 rfl rfl ?_
    refine m_getI (pc := 14) (j := 34) dX11_comeAnswer_14 flX11_194 rfl rfl ?_
    refine mg (X := fun q1 => gV G mX11_comeAnswer 1 Q 25 [some (sr (some a0))] [si q1, si (m 44 0), sr (some a0)] (0) (0) (jn a0 h m)) hF (fun _ hj2 hF => ?_) (fun q1 hF => ?_)
    · refine v_if_le (pc := 17) 24 dX11_comeAnswer_17 rfl (fun hc => ?_) (fun hc => ?_)
      · replace hF := (okB_if hF).1 hc
        refine v_iconst (pc := 24) (v := (0 : Int32)) dX11_comeAnswer_24 rfl ?_
        exact v_lle [some (sr (some a0))] ⟨rfl, trivial⟩ (hj2 (0 : Int32) (okB_some hF))
      replace hF := (okB_if hF).2 hc
      refine v_iconst (pc := 20) (v := (1 : Int32)) dX11_comeAnswer_20 rfl ?_
      refine v_goto (pc := 21) 25 dX11_comeAnswer_21 rfl ?_
      exact v_lle [some (sr (some a0))] ⟨rfl, trivial⟩ (hj2 (1 : Int32) (okB_some hF))
    refine v_iadd (pc := 25) dX11_comeAnswer_25 ?_
    refine m_putI (pc := 26) (j := 44) dX11_comeAnswer_26 flX11_188 rfl rfl rfl hF (fun m3 hF => ?_)
    refine v_aload_n (pc := 29) (i := 0) dX11_comeAnswer_29 rfl rfl ?_
    refine m_getI (pc := 30) (j := 38) dX11_comeAnswer_30 flX11_108 rfl rfl ?_
    refine v_iconst (pc := 33) (v := (1 : Int32)) dX11_comeAnswer_33 rfl ?_
    refine mg (X := fun q4 => gV G mX11_comeAnswer 1 Q 59 [some (sr (some a0))] [] (0) (0) (jn a0 h q4)) hF (fun _ hj5 hF => ?_) (fun q4 hF => ?_)
    · refine v_icmp_eq (pc := 34) 44 dX11_comeAnswer_34 rfl (fun hc => ?_) (fun hc => ?_)
      · replace hF := (okB_if hF).1 hc
        refine v_aload_n (pc := 44) (i := 0) dX11_comeAnswer_44 rfl rfl ?_
        refine v_iconst (pc := 45) (v := (-1 : Int32)) dX11_comeAnswer_45 rfl ?_
        refine m_putI (pc := 46) (j := 38) dX11_comeAnswer_46 flX11_108 rfl rfl rfl hF (fun m6 hF => ?_)
        refine v_aload_n (pc := 49) (i := 0) dX11_comeAnswer_49 rfl rfl ?_
        refine v_dup (pc := 50) dX11_comeAnswer_50 rfl ?_
        refine m_getI (pc := 51) (j := 44) dX11_comeAnswer_51 flX11_188 rfl rfl ?_
        refine v_iconst (pc := 54) (v := (1 : Int32)) dX11_comeAnswer_54 rfl ?_
        refine v_iadd (pc := 55) dX11_comeAnswer_55 ?_
        refine m_putI (pc := 56) (j := 44) dX11_comeAnswer_56 flX11_188 rfl rfl rfl hF (fun m7 hF => ?_)
        exact v_lle [some (sr (some a0))] ⟨rfl, trivial⟩ (hj5 m7 (okB_some hF))
      replace hF := (okB_if hF).2 hc
      refine v_aload_n (pc := 37) (i := 0) dX11_comeAnswer_37 rfl rfl ?_
      refine m_getI (pc := 38) (j := 38) dX11_comeAnswer_38 flX11_108 rfl rfl ?_
      refine v_if_ne (pc := 41) 59 dX11_comeAnswer_41 rfl (fun hc => ?_) (fun hc => ?_)
      · replace hF := (okB_if hF).2 hc
        exact v_lle [some (sr (some a0))] ⟨rfl, trivial⟩ (hj5 m3 (okB_some hF))
      replace hF := (okB_if hF).1 hc
      refine v_aload_n (pc := 44) (i := 0) dX11_comeAnswer_44 rfl rfl ?_
      refine v_iconst (pc := 45) (v := (-1 : Int32)) dX11_comeAnswer_45 rfl ?_
      refine m_putI (pc := 46) (j := 38) dX11_comeAnswer_46 flX11_108 rfl rfl rfl hF (fun m8 hF => ?_)
      refine v_aload_n (pc := 49) (i := 0) dX11_comeAnswer_49 rfl rfl ?_
      refine v_dup (pc := 50) dX11_comeAnswer_50 rfl ?_
      refine m_getI (pc := 51) (j := 44) dX11_comeAnswer_51 flX11_188 rfl rfl ?_
      refine v_iconst (pc := 54) (v := (1 : Int32)) dX11_comeAnswer_54 rfl ?_
      refine v_iadd (pc := 55) dX11_comeAnswer_55 ?_
      refine m_putI (pc := 56) (j := 44) dX11_comeAnswer_56 flX11_188 rfl rfl rfl hF (fun m9 hF => ?_)
      exact v_lle [some (sr (some a0))] ⟨rfl, trivial⟩ (hj5 m9 (okB_some hF))
    refine v_aload_n (pc := 59) (i := 0) dX11_comeAnswer_59 rfl rfl ?_
    refine m_getA (pc := 60) (j := 28) dX11_comeAnswer_60 flX11_65 rfl (by decide) ?_
    refine v_iconst (pc := 63) (v := (0 : Int32)) dX11_comeAnswer_63 rfl ?_
    refine v_aload_n (pc := 64) (i := 0) dX11_comeAnswer_64 rfl rfl ?_
    refine m_getA (pc := 65) (j := 33) dX11_comeAnswer_65 flX11_74 rfl (by decide) ?_
    refine v_iconst (pc := 68) (v := (0 : Int32)) dX11_comeAnswer_68 rfl ?_
    refine v_aload_n (pc := 69) (i := 0) dX11_comeAnswer_69 rfl rfl ?_
    refine m_getI (pc := 70) (j := 29) dX11_comeAnswer_70 flX11_143 rfl rfl ?_
    refine chM_S (a0 := a0) (h := h) (pc := 73) gU (as := [sr (some (a0 + mo 28)), si (0 : Int32), sr (some (a0 + mo 33)), si (0 : Int32), si (q4 29 0)]) (st := []) (N := mX11_copy) (k := 0) (n := 0) (k1 := 0) (n1 := 0) dX11_comeAnswer_73 lkX11_181 caX11_copy csX11_copy rfl (fun Q1 hq => tX11_copy a0 h 28 (0 : Int32) 33 (0 : Int32) (q4 29 0) q4 Q1 hq) ⟨by decide, by decide⟩ (Nat.le_of_ble_eq_true rfl) rfl hF (fun x10 m11 hF => ?_)
    show gV G mX11_comeAnswer 1 Q 76 [some (sr (some a0))] [] (0) (0) (jn a0 h m11)
    refine v_aload_n (pc := 76) (i := 0) dX11_comeAnswer_76 rfl rfl ?_
    refine v_aload_n (pc := 77) (i := 0) dX11_comeAnswer_77 rfl rfl ?_
    refine m_getI (pc := 78) (j := 29) dX11_comeAnswer_78 flX11_143 rfl rfl ?_
    refine m_putI (pc := 81) (j := 34) dX11_comeAnswer_81 flX11_194 rfl rfl rfl hF (fun m12 hF => ?_)
    exact v_ret (pc := 84) dX11_comeAnswer_84 rfl (okr hF fun q => q)
  replace hF := (okB_if hF).1 hc
  exact v_ret (pc := 7) dX11_comeAnswer_7 rfl (okr hF fun q => q)
/-! BrailleDeskModel.comeAlert -/
theorem lX11_comeAlert_84 {G : gG} {Q : hQ} {P : Int32 → Prop} {k n : Nat} (a0 : Nat) (h : hp) (m : mm) (hJ : ∀ q : Int32, P q → gV G mX11_comeAlert 1 Q 121 [some (sr (some a0)), some (si q)] [] (k) (n) (jn a0 h m)) : ∀ (fu : Nat) (a : Int32), okB (itr (fX11_comeAlert_B84 m) fu a) P → gV G mX11_comeAlert 1 Q 84 [some (sr (some a0)), some (si a)] [] (k) (n) (jn a0 h m) :=
  lpg (X := fun (a : Int32) => gV G mX11_comeAlert 1 Q 84 [some (sr (some a0)), some (si a)] [] (k) (n) (jn a0 h m)) (fun a P2 hL hE hF => by
    delta fX11_comeAlert_B84 at hF
    refine v_aload_n (pc := 84) (i := 0) dX11_comeAlert_84 rfl rfl ?_
    refine m_getA (pc := 85) (j := 39) dX11_comeAlert_85 flX11_83 rfl (by decide) ?_
    refine v_aload_n (pc := 88) (i := 0) dX11_comeAlert_88 rfl rfl ?_
    refine m_getI (pc := 89) (j := 41) dX11_comeAlert_89 flX11_197 rfl rfl ?_
    refine m_iald (pc := 92) (j := 39) dX11_comeAlert_92 hF (fun x1 hF => ?_)
    refine v_bipush (pc := 93) (v := (32 : Int32)) dX11_comeAlert_93 rfl ?_
    refine v_icmp_eq (pc := 95) 121 dX11_comeAlert_95 rfl (fun hc => ?_) (fun hc => ?_)
    · replace hF := (okB_if hF).1 hc
      exact v_lle [some (sr (some a0)), some (si a)] ⟨rfl, rfl, trivial⟩ (hJ a (hE _ (okB_some hF)))
    replace hF := (okB_if hF).2 hc
    refine v_iload_n (pc := 98) (i := 1) dX11_comeAlert_98 rfl rfl ?_
    refine v_if_le (pc := 99) 121 dX11_comeAlert_99 rfl (fun hc => ?_) (fun hc => ?_)
    · replace hF := (okB_if hF).1 hc
      exact v_lle [some (sr (some a0)), some (si a)] ⟨rfl, rfl, trivial⟩ (hJ a (hE _ (okB_some hF)))
    replace hF := (okB_if hF).2 hc
    refine v_aload_n (pc := 102) (i := 0) dX11_comeAlert_102 rfl rfl ?_
    refine m_getA (pc := 103) (j := 39) dX11_comeAlert_103 flX11_83 rfl (by decide) ?_
    refine v_iload_n (pc := 106) (i := 1) dX11_comeAlert_106 rfl rfl ?_
    refine v_iconst (pc := 107) (v := (1 : Int32)) dX11_comeAlert_107 rfl ?_
    refine v_isub (pc := 108) dX11_comeAlert_108 ?_
    refine m_iald (pc := 109) (j := 39) dX11_comeAlert_109 hF (fun x2 hF => ?_)
    refine v_bipush (pc := 110) (v := (32 : Int32)) dX11_comeAlert_110 rfl ?_
    refine v_icmp_eq (pc := 112) 121 dX11_comeAlert_112 rfl (fun hc => ?_) (fun hc => ?_)
    · replace hF := (okB_if hF).1 hc
      exact v_lle [some (sr (some a0)), some (si a)] ⟨rfl, rfl, trivial⟩ (hJ a (hE _ (okB_some hF)))
    replace hF := (okB_if hF).2 hc
    refine v_iinc (pc := 115) (i := 1) (a + (-1 : Int32)) [some (sr (some a0)), some (si (a + (-1 : Int32)))] dX11_comeAlert_115 rfl rfl rfl rfl ?_
    refine v_goto (pc := 118) 84 dX11_comeAlert_118 rfl ?_
    exact v_lle [some (sr (some a0)), some (si (a + (-1 : Int32)))] ⟨rfl, rfl, trivial⟩ (hL (a + (-1 : Int32)) (okB_some hF)))
theorem tX11_comeAlert {G : gG} (a0 : Nat) (h : hp)  (m : mm) (Q : hQ) (hF : okB (fX11_comeAlert m) (pM gU Q a0 h)) : gS G mX11_comeAlert 1 0 0 [sr (some a0)] (jn a0 h m) Q := by
  delta fX11_comeAlert at hF
  refine gS_at [some (sr (some a0)), none] pl_X11 rfl (Nat.le_of_ble_eq_true rfl) rfl ?_
  refine v_aload_n (pc := 0) (i := 0) dX11_comeAlert_0 rfl rfl ?_
  refine m_getA (pc := 1) (j := 28) dX11_comeAlert_1 flX11_65 rfl (by decide) ?_
  refine v_iconst (pc := 4) (v := (0 : Int32)) dX11_comeAlert_4 rfl ?_
  refine v_aload_n (pc := 5) (i := 0) dX11_comeAlert_5 rfl rfl ?_
  refine m_getA (pc := 6) (j := 35) dX11_comeAlert_6 flX11_77 rfl (by decide) ?_
  refine v_bipush (pc := 9) (v := (100 : Int32)) dX11_comeAlert_9 rfl ?_
  refine v_aload_n (pc := 11) (i := 0) dX11_comeAlert_11 rfl rfl ?_
  refine m_getI (pc := 12) (j := 37) dX11_comeAlert_12 flX11_191 rfl rfl ?_
  refine v_imul (pc := 15) dX11_comeAlert_15 ?_
  refine v_aload_n (pc := 16) (i := 0) dX11_comeAlert_16 rfl rfl ?_
  refine m_getI (pc := 17) (j := 29) dX11_comeAlert_17 flX11_143 rfl rfl ?_
  refine chM_S (a0 := a0) (h := h) (pc := 20) gU (as := [sr (some (a0 + mo 28)), si (0 : Int32), sr (some (a0 + mo 35)), si ((100 : Int32) * (m 37 0)), si (m 29 0)]) (st := []) (N := mX11_copy) (k := 0) (n := 0) (k1 := 0) (n1 := 0) dX11_comeAlert_20 lkX11_181 caX11_copy csX11_copy rfl (fun Q1 hq => tX11_copy a0 h 28 (0 : Int32) 35 ((100 : Int32) * (m 37 0)) (m 29 0) m Q1 hq) ⟨by decide, by decide⟩ (Nat.le_of_ble_eq_true rfl) rfl hF (fun x1 m2 hF => ?_)
  show gV G mX11_comeAlert 1 Q 23 [some (sr (some a0)), none] [] (0) (0) (jn a0 h m2)
  refine v_aload_n (pc := 23) (i := 0) dX11_comeAlert_23 rfl rfl ?_
  refine m_getA (pc := 24) (j := 36) dX11_comeAlert_24 flX11_80 rfl (by decide) ?_
  refine v_aload_n (pc := 27) (i := 0) dX11_comeAlert_27 rfl rfl ?_
  refine m_getI (pc := 28) (j := 37) dX11_comeAlert_28 flX11_191 rfl rfl ?_
  refine v_aload_n (pc := 31) (i := 0) dX11_comeAlert_31 rfl rfl ?_
  refine m_getI (pc := 32) (j := 29) dX11_comeAlert_32 flX11_143 rfl rfl ?_
  refine m_iast (pc := 35) (j := 36) dX11_comeAlert_35 hF (fun m3 hF => ?_)
  refine v_aload_n (pc := 36) (i := 0) dX11_comeAlert_36 rfl rfl ?_
  refine v_dup (pc := 37) dX11_comeAlert_37 rfl ?_
  refine m_getI (pc := 38) (j := 37) dX11_comeAlert_38 flX11_191 rfl rfl ?_
  refine v_iconst (pc := 41) (v := (1 : Int32)) dX11_comeAlert_41 rfl ?_
  refine v_iadd (pc := 42) dX11_comeAlert_42 ?_
  refine m_putI (pc := 43) (j := 37) dX11_comeAlert_43 flX11_191 rfl rfl rfl hF (fun m4 hF => ?_)
  refine v_aload_n (pc := 46) (i := 0) dX11_comeAlert_46 rfl rfl ?_
  refine m_getI (pc := 47) (j := 38) dX11_comeAlert_47 flX11_108 rfl rfl ?_
  refine v_if_ne (pc := 50) 71 dX11_comeAlert_50 rfl (fun hc => ?_) (fun hc => ?_)
  · replace hF := (okB_if hF).2 hc
    refine v_aload_n (pc := 71) (i := 0) dX11_comeAlert_71 rfl rfl ?_
    refine m_getI (pc := 72) (j := 38) dX11_comeAlert_72 flX11_108 rfl rfl ?_
    refine v_iconst (pc := 75) (v := (1 : Int32)) dX11_comeAlert_75 rfl ?_
    refine v_icmp_ne (pc := 76) 153 dX11_comeAlert_76 rfl (fun hc => ?_) (fun hc => ?_)
    · replace hF := (okB_if hF).2 hc
      exact v_ret (pc := 153) dX11_comeAlert_153 rfl (okr hF fun q => q)
    replace hF := (okB_if hF).1 hc
    refine v_aload_n (pc := 79) (i := 0) dX11_comeAlert_79 rfl rfl ?_
    refine m_getI (pc := 80) (j := 41) dX11_comeAlert_80 flX11_197 rfl rfl ?_
    refine v_istore_n (pc := 83) (i := 1) [some (sr (some a0)), some (si (m4 41 0))] dX11_comeAlert_83 rfl (by decide) rfl rfl ?_
    refine mg (X := fun q5 => gV G mX11_comeAlert 1 Q 121 [some (sr (some a0)), some (si q5)] [] (0) (0) (jn a0 h m4)) hF (fun _ hj10 hF => v_lle [some (sr (some a0)), some (si (m4 41 0))] ⟨rfl, rfl, trivial⟩ (lX11_comeAlert_84 a0 h m4 hj10 FU (m4 41 0) hF)) (fun q5 hF => ?_)
    refine v_aload_n (pc := 121) (i := 0) dX11_comeAlert_121 rfl rfl ?_
    refine v_aload_n (pc := 122) (i := 0) dX11_comeAlert_122 rfl rfl ?_
    refine m_getI (pc := 123) (j := 40) dX11_comeAlert_123 flX11_200 rfl rfl ?_
    refine v_iload_n (pc := 126) (i := 1) dX11_comeAlert_126 rfl rfl ?_
    refine v_isub (pc := 127) dX11_comeAlert_127 ?_
    refine m_putI (pc := 128) (j := 34) dX11_comeAlert_128 flX11_194 rfl rfl rfl hF (fun m6 hF => ?_)
    refine v_aload_n (pc := 131) (i := 0) dX11_comeAlert_131 rfl rfl ?_
    refine m_getA (pc := 132) (j := 39) dX11_comeAlert_132 flX11_83 rfl (by decide) ?_
    refine v_iload_n (pc := 135) (i := 1) dX11_comeAlert_135 rfl rfl ?_
    refine v_aload_n (pc := 136) (i := 0) dX11_comeAlert_136 rfl rfl ?_
    refine m_getA (pc := 137) (j := 33) dX11_comeAlert_137 flX11_74 rfl (by decide) ?_
    refine v_iconst (pc := 140) (v := (0 : Int32)) dX11_comeAlert_140 rfl ?_
    refine v_aload_n (pc := 141) (i := 0) dX11_comeAlert_141 rfl rfl ?_
    refine m_getI (pc := 142) (j := 34) dX11_comeAlert_142 flX11_194 rfl rfl ?_
    refine chM_S (a0 := a0) (h := h) (pc := 145) gU (as := [sr (some (a0 + mo 39)), si q5, sr (some (a0 + mo 33)), si (0 : Int32), si (m6 34 0)]) (st := []) (N := mX11_copy) (k := 0) (n := 0) (k1 := 0) (n1 := 0) dX11_comeAlert_145 lkX11_181 caX11_copy csX11_copy rfl (fun Q1 hq => tX11_copy a0 h 39 q5 33 (0 : Int32) (m6 34 0) m6 Q1 hq) ⟨by decide, by decide⟩ (Nat.le_of_ble_eq_true rfl) rfl hF (fun x7 m8 hF => ?_)
    show gV G mX11_comeAlert 1 Q 148 [some (sr (some a0)), some (si q5)] [] (0) (0) (jn a0 h m8)
    refine v_aload_n (pc := 148) (i := 0) dX11_comeAlert_148 rfl rfl ?_
    refine v_iconst (pc := 149) (v := (-1 : Int32)) dX11_comeAlert_149 rfl ?_
    refine m_putI (pc := 150) (j := 38) dX11_comeAlert_150 flX11_108 rfl rfl rfl hF (fun m9 hF => ?_)
    exact v_ret (pc := 153) dX11_comeAlert_153 rfl (okr hF fun q => q)
  replace hF := (okB_if hF).1 hc
  refine v_aload_n (pc := 53) (i := 0) dX11_comeAlert_53 rfl rfl ?_
  refine v_iconst (pc := 54) (v := (-1 : Int32)) dX11_comeAlert_54 rfl ?_
  refine m_putI (pc := 55) (j := 38) dX11_comeAlert_55 flX11_108 rfl rfl rfl hF (fun m11 hF => ?_)
  refine v_aload_n (pc := 58) (i := 0) dX11_comeAlert_58 rfl rfl ?_
  refine v_dup (pc := 59) dX11_comeAlert_59 rfl ?_
  refine m_getI (pc := 60) (j := 44) dX11_comeAlert_60 flX11_188 rfl rfl ?_
  refine v_iconst (pc := 63) (v := (1 : Int32)) dX11_comeAlert_63 rfl ?_
  refine v_iadd (pc := 64) dX11_comeAlert_64 ?_
  refine m_putI (pc := 65) (j := 44) dX11_comeAlert_65 flX11_188 rfl rfl rfl hF (fun m12 hF => ?_)
  refine v_goto (pc := 68) 153 dX11_comeAlert_68 rfl ?_
  exact v_ret (pc := 153) dX11_comeAlert_153 rfl (okr hF fun q => q)
/-! BrailleDeskModel.hush -/
theorem tX11_hush {G : gG} (a0 : Nat) (h : hp)  (m : mm) (Q : hQ) (hF : okB (fX11_hush m) (pM gU Q a0 h)) : gS G mX11_hush 0 0 0 [sr (some a0)] (jn a0 h m) Q := by
  delta fX11_hush at hF
  refine gS_at [some (sr (some a0))] pl_X11 rfl (Nat.le_of_ble_eq_true rfl) rfl ?_
  refine v_aload_n (pc := 0) (i := 0) dX11_hush_0 rfl rfl ?_
  refine v_dup (pc := 1) dX11_hush_1 rfl ?_
  refine m_getI (pc := 2) (j := 44) dX11_hush_2 flX11_188 rfl rfl ?_
  refine v_aload_n (pc := 5) (i := 0) dX11_hush_5 rfl rfl ?_
  refine m_getI (pc := 6) (j := 32) dX11_hush_6 flX11_178 rfl rfl ?_
  refine v_aload_n (pc := 9) (i := 0) dX11_hush_9 rfl rfl ?_
  refine m_getI (pc := 10) (j := 34) dX11_hush_10 flX11_194 rfl rfl ?_
  refine mg (X := fun q1 => gV G mX11_hush 0 Q 21 [some (sr (some a0))] [si q1, si (m 32 0), si (m 44 0), sr (some a0)] (0) (0) (jn a0 h m)) hF (fun _ hj2 hF => ?_) (fun q1 hF => ?_)
  · refine v_if_le (pc := 13) 20 dX11_hush_13 rfl (fun hc => ?_) (fun hc => ?_)
    · replace hF := (okB_if hF).1 hc
      refine v_iconst (pc := 20) (v := (0 : Int32)) dX11_hush_20 rfl ?_
      exact v_lle [some (sr (some a0))] ⟨rfl, trivial⟩ (hj2 (0 : Int32) (okB_some hF))
    replace hF := (okB_if hF).2 hc
    refine v_iconst (pc := 16) (v := (1 : Int32)) dX11_hush_16 rfl ?_
    refine v_goto (pc := 17) 21 dX11_hush_17 rfl ?_
    exact v_lle [some (sr (some a0))] ⟨rfl, trivial⟩ (hj2 (1 : Int32) (okB_some hF))
  refine v_iadd (pc := 21) dX11_hush_21 ?_
  refine v_aload_n (pc := 22) (i := 0) dX11_hush_22 rfl rfl ?_
  refine m_getI (pc := 23) (j := 38) dX11_hush_23 flX11_108 rfl rfl ?_
  refine mg (X := fun q3 => gV G mX11_hush 0 Q 42 [some (sr (some a0))] [si q3, si ((m 32 0) + q1), si (m 44 0), sr (some a0)] (0) (0) (jn a0 h m)) hF (fun _ hj4 hF => ?_) (fun q3 hF => ?_)
  · refine v_if_eq (pc := 26) 37 dX11_hush_26 rfl (fun hc => ?_) (fun hc => ?_)
    · replace hF := (okB_if hF).1 hc
      refine v_iconst (pc := 37) (v := (1 : Int32)) dX11_hush_37 rfl ?_
      refine v_goto (pc := 38) 42 dX11_hush_38 rfl ?_
      exact v_lle [some (sr (some a0))] ⟨rfl, trivial⟩ (hj4 (1 : Int32) (okB_some hF))
    replace hF := (okB_if hF).2 hc
    refine v_aload_n (pc := 29) (i := 0) dX11_hush_29 rfl rfl ?_
    refine m_getI (pc := 30) (j := 38) dX11_hush_30 flX11_108 rfl rfl ?_
    refine v_iconst (pc := 33) (v := (1 : Int32)) dX11_hush_33 rfl ?_
    refine v_icmp_ne (pc := 34) 41 dX11_hush_34 rfl (fun hc => ?_) (fun hc => ?_)
    · replace hF := (okB_if hF).2 hc
      refine v_iconst (pc := 41) (v := (0 : Int32)) dX11_hush_41 rfl ?_
      exact v_lle [some (sr (some a0))] ⟨rfl, trivial⟩ (hj4 (0 : Int32) (okB_some hF))
    replace hF := (okB_if hF).1 hc
    refine v_iconst (pc := 37) (v := (1 : Int32)) dX11_hush_37 rfl ?_
    refine v_goto (pc := 38) 42 dX11_hush_38 rfl ?_
    exact v_lle [some (sr (some a0))] ⟨rfl, trivial⟩ (hj4 (1 : Int32) (okB_some hF))
  refine v_iadd (pc := 42) dX11_hush_42 ?_
  refine v_iadd (pc := 43) dX11_hush_43 ?_
  refine m_putI (pc := 44) (j := 44) dX11_hush_44 flX11_188 rfl rfl rfl hF (fun m5 hF => ?_)
  refine v_aload_n (pc := 47) (i := 0) dX11_hush_47 rfl rfl ?_
  refine v_iconst (pc := 48) (v := (0 : Int32)) dX11_hush_48 rfl ?_
  refine m_putI (pc := 49) (j := 32) dX11_hush_49 flX11_178 rfl rfl rfl hF (fun m6 hF => ?_)
  refine v_aload_n (pc := 52) (i := 0) dX11_hush_52 rfl rfl ?_
  refine v_iconst (pc := 53) (v := (0 : Int32)) dX11_hush_53 rfl ?_
  refine m_putI (pc := 54) (j := 34) dX11_hush_54 flX11_194 rfl rfl rfl hF (fun m7 hF => ?_)
  refine v_aload_n (pc := 57) (i := 0) dX11_hush_57 rfl rfl ?_
  refine v_aload_n (pc := 58) (i := 0) dX11_hush_58 rfl rfl ?_
  refine m_getI (pc := 59) (j := 38) dX11_hush_59 flX11_108 rfl rfl ?_
  refine v_iconst (pc := 62) (v := (2 : Int32)) dX11_hush_62 rfl ?_
  refine v_icmp_ne (pc := 63) 70 dX11_hush_63 rfl (fun hc => ?_) (fun hc => ?_)
  · replace hF := (okB_if hF).2 hc
    refine v_iconst (pc := 70) (v := (-1 : Int32)) dX11_hush_70 rfl ?_
    refine m_putI (pc := 71) (j := 38) dX11_hush_71 flX11_108 rfl rfl rfl hF (fun m8 hF => ?_)
    exact v_ret (pc := 74) dX11_hush_74 rfl (okr hF fun q => q)
  replace hF := (okB_if hF).1 hc
  refine v_iconst (pc := 66) (v := (2 : Int32)) dX11_hush_66 rfl ?_
  refine v_goto (pc := 67) 71 dX11_hush_67 rfl ?_
  refine m_putI (pc := 71) (j := 38) dX11_hush_71 flX11_108 rfl rfl rfl hF (fun m9 hF => ?_)
  exact v_ret (pc := 74) dX11_hush_74 rfl (okr hF fun q => q)
/-! BrailleDeskModel.say -/
theorem tX11_say {G : gG} (a0 : Nat) (h : hp) (a1 : Int64) (m : mm) (Q : hQ) (hF : okB (fX11_say a1 m) (pM gU Q a0 h)) : gS G mX11_say 3 0 0 [sr (some a0), sl a1] (jn a0 h m) Q := by
  delta fX11_say at hF
  refine gS_at [some (sr (some a0)), some (sl a1), none] pl_X11 rfl (Nat.le_of_ble_eq_true rfl) rfl ?_
  refine v_aload_n (pc := 0) (i := 0) dX11_say_0 rfl rfl ?_
  refine v_iconst (pc := 1) (v := (0 : Int32)) dX11_say_1 rfl ?_
  refine m_putI (pc := 2) (j := 29) dX11_say_2 flX11_143 rfl rfl rfl hF (fun m1 hF => ?_)
  refine v_aload_n (pc := 5) (i := 0) dX11_say_5 rfl rfl ?_
  refine v_lload_n (pc := 6) (i := 1) dX11_say_6 rfl rfl ?_
  refine chM_V (pc := 7) gU (as := [sl a1]) (st := []) (N := mX11_partWord) (k := 0) (n := 0) (k1 := 0) (n1 := 0) dX11_say_7 lkX11_160 caX11_partWord cvX11_partWord rfl rfl (fun Q1 hq => tX11_partWord a0 h a1 m1 Q1 hq) ⟨by decide, by decide⟩ (Nat.le_of_ble_eq_true rfl) rfl hF (fun x2 m3 hF => ?_)
  show gV G mX11_say 3 Q 10 [some (sr (some a0)), some (sl a1), none] [] (0) (0) (jn a0 h m3)
  refine v_aload_n (pc := 10) (i := 0) dX11_say_10 rfl rfl ?_
  refine chM_V (pc := 11) gU (as := []) (st := []) (N := mX11_comeAnswer) (k := 0) (n := 0) (k1 := 0) (n1 := 0) dX11_say_11 lkX11_203 caX11_comeAnswer cvX11_comeAnswer rfl rfl (fun Q1 hq => tX11_comeAnswer a0 h m3 Q1 hq) ⟨by decide, by decide⟩ (Nat.le_of_ble_eq_true rfl) rfl hF (fun x4 m5 hF => ?_)
  show gV G mX11_say 3 Q 14 [some (sr (some a0)), some (sl a1), none] [] (0) (0) (jn a0 h m5)
  exact v_ret (pc := 14) dX11_say_14 rfl (okr hF fun q => q)
/-! BrailleDeskModel.canNews -/
theorem tX11_canNews {G : gG} (a0 : Nat) (h : hp) (a1 : Int32) (m : mm) (Q : hQ) (hF : okB (fX11_canNews a1 m) (pP gI Q (jn a0 h m))) : gS G mX11_canNews 0 0 0 [sr (some a0), si a1] (jn a0 h m) Q := by
  delta fX11_canNews at hF
  refine gS_at [some (sr (some a0)), some (si a1)] pl_X11 rfl (Nat.le_of_ble_eq_true rfl) rfl ?_
  refine v_aload_n (pc := 0) (i := 0) dX11_canNews_0 rfl rfl ?_
  refine m_getA (pc := 1) (j := 15) dX11_canNews_1 flX11_53 rfl (by decide) ?_
  refine v_iload_n (pc := 4) (i := 1) dX11_canNews_4 rfl rfl ?_
  refine m_iald (pc := 5) (j := 15) dX11_canNews_5 hF (fun x1 hF => ?_)
  refine v_iconst (pc := 6) (v := (-1 : Int32)) dX11_canNews_6 rfl ?_
  refine v_icmp_eq (pc := 7) 25 dX11_canNews_7 rfl (fun hc => ?_) (fun hc => ?_)
  · replace hF := (okB_if hF).1 hc
    refine v_iconst (pc := 25) (v := (1 : Int32)) dX11_canNews_25 rfl ?_
    refine v_goto (pc := 26) 30 dX11_canNews_26 rfl ?_
    exact v_iret (pc := 30) dX11_canNews_30 rfl rfl (okr hF fun q => q)
  replace hF := (okB_if hF).2 hc
  refine v_aload_n (pc := 10) (i := 0) dX11_canNews_10 rfl rfl ?_
  refine m_getI (pc := 11) (j := 46) dX11_canNews_11 flX11_206 rfl rfl ?_
  refine v_aload_n (pc := 14) (i := 0) dX11_canNews_14 rfl rfl ?_
  refine m_getA (pc := 15) (j := 15) dX11_canNews_15 flX11_53 rfl (by decide) ?_
  refine v_iload_n (pc := 18) (i := 1) dX11_canNews_18 rfl rfl ?_
  refine m_iald (pc := 19) (j := 15) dX11_canNews_19 hF (fun x2 hF => ?_)
  refine v_isub (pc := 20) dX11_canNews_20 ?_
  refine v_iconst (pc := 21) (v := (5 : Int32)) dX11_canNews_21 rfl ?_
  refine v_icmp_lt (pc := 22) 29 dX11_canNews_22 rfl (fun hc => ?_) (fun hc => ?_)
  · replace hF := (okB_if hF).1 hc
    refine v_iconst (pc := 29) (v := (0 : Int32)) dX11_canNews_29 rfl ?_
    exact v_iret (pc := 30) dX11_canNews_30 rfl rfl (okr hF fun q => q)
  replace hF := (okB_if hF).2 hc
  refine v_iconst (pc := 25) (v := (1 : Int32)) dX11_canNews_25 rfl ?_
  refine v_goto (pc := 26) 30 dX11_canNews_26 rfl ?_
  exact v_iret (pc := 30) dX11_canNews_30 rfl rfl (okr hF fun q => q)
/-! BrailleDeskModel.swallow -/
theorem tX11_swallow {G : gG} (a0 : Nat) (h : hp) (a1 : Int32) (m : mm) (Q : hQ) (hF : okB (fX11_swallow a1 m) (pM gU Q a0 h)) : gS G mX11_swallow 0 0 0 [sr (some a0), si a1] (jn a0 h m) Q := by
  delta fX11_swallow at hF
  refine gS_at [some (sr (some a0)), some (si a1)] pl_X11 rfl (Nat.le_of_ble_eq_true rfl) rfl ?_
  refine v_aload_n (pc := 0) (i := 0) dX11_swallow_0 rfl rfl ?_
  refine v_dup (pc := 1) dX11_swallow_1 rfl ?_
  refine m_getI (pc := 2) (j := 45) dX11_swallow_2 flX11_221 rfl rfl ?_
  refine v_aload_n (pc := 5) (i := 0) dX11_swallow_5 rfl rfl ?_
  refine m_getA (pc := 6) (j := 16) dX11_swallow_6 flX11_56 rfl (by decide) ?_
  refine v_iload_n (pc := 9) (i := 1) dX11_swallow_9 rfl rfl ?_
  refine m_iald (pc := 10) (j := 16) dX11_swallow_10 hF (fun x1 hF => ?_)
  refine mg (X := fun q2 => gV G mX11_swallow 0 Q 19 [some (sr (some a0)), some (si a1)] [si q2, si (m 45 0), sr (some a0)] (0) (0) (jn a0 h m)) hF (fun _ hj3 hF => ?_) (fun q2 hF => ?_)
  · refine v_if_le (pc := 11) 18 dX11_swallow_11 rfl (fun hc => ?_) (fun hc => ?_)
    · replace hF := (okB_if hF).1 hc
      refine v_iconst (pc := 18) (v := (0 : Int32)) dX11_swallow_18 rfl ?_
      exact v_lle [some (sr (some a0)), some (si a1)] ⟨rfl, rfl, trivial⟩ (hj3 (0 : Int32) (okB_some hF))
    replace hF := (okB_if hF).2 hc
    refine v_iconst (pc := 14) (v := (1 : Int32)) dX11_swallow_14 rfl ?_
    refine v_goto (pc := 15) 19 dX11_swallow_15 rfl ?_
    exact v_lle [some (sr (some a0)), some (si a1)] ⟨rfl, rfl, trivial⟩ (hj3 (1 : Int32) (okB_some hF))
  refine v_iadd (pc := 19) dX11_swallow_19 ?_
  refine m_putI (pc := 20) (j := 45) dX11_swallow_20 flX11_221 rfl rfl rfl hF (fun m4 hF => ?_)
  refine v_aload_n (pc := 23) (i := 0) dX11_swallow_23 rfl rfl ?_
  refine m_getA (pc := 24) (j := 16) dX11_swallow_24 flX11_56 rfl (by decide) ?_
  refine v_iload_n (pc := 27) (i := 1) dX11_swallow_27 rfl rfl ?_
  refine v_iconst (pc := 28) (v := (0 : Int32)) dX11_swallow_28 rfl ?_
  refine m_iast (pc := 29) (j := 16) dX11_swallow_29 hF (fun m5 hF => ?_)
  exact v_ret (pc := 30) dX11_swallow_30 rfl (okr hF fun q => q)
