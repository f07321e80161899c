/-! ===== methods: their functions and rows ===== -/
theorem dX4_dropFirst_0 : decode cX4_dropFirst 0 = .ok (.aload_n 0, 1) := by decide +kernel
theorem dX4_dropFirst_1 : decode cX4_dropFirst 1 = .ok (.getfield 20, 3) := by decide +kernel
theorem dX4_dropFirst_4 : decode cX4_dropFirst 4 = .ok (.ifCond .le 15, 3) := by decide +kernel
theorem dX4_dropFirst_7 : decode cX4_dropFirst 7 = .ok (.aload_n 0, 1) := by decide +kernel
theorem dX4_dropFirst_8 : decode cX4_dropFirst 8 = .ok (.getfield 20, 3) := by decide +kernel
theorem dX4_dropFirst_11 : decode cX4_dropFirst 11 = .ok (.aload_n 0, 1) := by decide +kernel
theorem dX4_dropFirst_12 : decode cX4_dropFirst 12 = .ok (.getfield 11, 3) := by decide +kernel
theorem dX4_dropFirst_15 : decode cX4_dropFirst 15 = .ok (.arraylength, 1) := by decide +kernel
theorem dX4_dropFirst_16 : decode cX4_dropFirst 16 = .ok (.if_icmp .le 4, 3) := by decide +kernel
theorem dX4_dropFirst_19 : decode cX4_dropFirst 19 = .ok (.return_, 1) := by decide +kernel
theorem dX4_dropFirst_20 : decode cX4_dropFirst 20 = .ok (.aload_n 0, 1) := by decide +kernel
theorem dX4_dropFirst_21 : decode cX4_dropFirst 21 = .ok (.getfield 11, 3) := by decide +kernel
theorem dX4_dropFirst_24 : decode cX4_dropFirst 24 = .ok (.iconst 0, 1) := by decide +kernel
theorem dX4_dropFirst_25 : decode cX4_dropFirst 25 = .ok (.aaload, 1) := by decide +kernel
theorem dX4_dropFirst_26 : decode cX4_dropFirst 26 = .ok (.astore_n 1, 1) := by decide +kernel
theorem dX4_dropFirst_27 : decode cX4_dropFirst 27 = .ok (.iconst 0, 1) := by decide +kernel
theorem dX4_dropFirst_28 : decode cX4_dropFirst 28 = .ok (.istore_n 2, 1) := by decide +kernel
theorem dX4_dropFirst_29 : decode cX4_dropFirst 29 = .ok (.iload_n 2, 1) := by decide +kernel
theorem dX4_dropFirst_30 : decode cX4_dropFirst 30 = .ok (.iconst 1, 1) := by decide +kernel
theorem dX4_dropFirst_31 : decode cX4_dropFirst 31 = .ok (.iadd, 1) := by decide +kernel
theorem dX4_dropFirst_32 : decode cX4_dropFirst 32 = .ok (.aload_n 0, 1) := by decide +kernel
theorem dX4_dropFirst_33 : decode cX4_dropFirst 33 = .ok (.getfield 11, 3) := by decide +kernel
theorem dX4_dropFirst_36 : decode cX4_dropFirst 36 = .ok (.arraylength, 1) := by decide +kernel
theorem dX4_dropFirst_37 : decode cX4_dropFirst 37 = .ok (.if_icmp .ge 23, 3) := by decide +kernel
theorem dX4_dropFirst_40 : decode cX4_dropFirst 40 = .ok (.aload_n 0, 1) := by decide +kernel
theorem dX4_dropFirst_41 : decode cX4_dropFirst 41 = .ok (.getfield 11, 3) := by decide +kernel
theorem dX4_dropFirst_44 : decode cX4_dropFirst 44 = .ok (.iload_n 2, 1) := by decide +kernel
theorem dX4_dropFirst_45 : decode cX4_dropFirst 45 = .ok (.aload_n 0, 1) := by decide +kernel
theorem dX4_dropFirst_46 : decode cX4_dropFirst 46 = .ok (.getfield 11, 3) := by decide +kernel
theorem dX4_dropFirst_49 : decode cX4_dropFirst 49 = .ok (.iload_n 2, 1) := by decide +kernel
theorem dX4_dropFirst_50 : decode cX4_dropFirst 50 = .ok (.iconst 1, 1) := by decide +kernel
theorem dX4_dropFirst_51 : decode cX4_dropFirst 51 = .ok (.iadd, 1) := by decide +kernel
theorem dX4_dropFirst_52 : decode cX4_dropFirst 52 = .ok (.aaload, 1) := by decide +kernel
theorem dX4_dropFirst_53 : decode cX4_dropFirst 53 = .ok (.aastore, 1) := by decide +kernel
theorem dX4_dropFirst_54 : decode cX4_dropFirst 54 = .ok (.iinc 2 1, 3) := by decide +kernel
theorem dX4_dropFirst_57 : decode cX4_dropFirst 57 = .ok (.goto (-28), 3) := by decide +kernel
theorem dX4_dropFirst_60 : decode cX4_dropFirst 60 = .ok (.aload_n 0, 1) := by decide +kernel
theorem dX4_dropFirst_61 : decode cX4_dropFirst 61 = .ok (.getfield 11, 3) := by decide +kernel
theorem dX4_dropFirst_64 : decode cX4_dropFirst 64 = .ok (.aload_n 0, 1) := by decide +kernel
theorem dX4_dropFirst_65 : decode cX4_dropFirst 65 = .ok (.getfield 11, 3) := by decide +kernel
theorem dX4_dropFirst_68 : decode cX4_dropFirst 68 = .ok (.arraylength, 1) := by decide +kernel
theorem dX4_dropFirst_69 : decode cX4_dropFirst 69 = .ok (.iconst 1, 1) := by decide +kernel
theorem dX4_dropFirst_70 : decode cX4_dropFirst 70 = .ok (.isub, 1) := by decide +kernel
theorem dX4_dropFirst_71 : decode cX4_dropFirst 71 = .ok (.aload_n 1, 1) := by decide +kernel
theorem dX4_dropFirst_72 : decode cX4_dropFirst 72 = .ok (.aastore, 1) := by decide +kernel
theorem dX4_dropFirst_73 : decode cX4_dropFirst 73 = .ok (.aload_n 0, 1) := by decide +kernel
theorem dX4_dropFirst_74 : decode cX4_dropFirst 74 = .ok (.dup, 1) := by decide +kernel
theorem dX4_dropFirst_75 : decode cX4_dropFirst 75 = .ok (.getfield 20, 3) := by decide +kernel
theorem dX4_dropFirst_78 : decode cX4_dropFirst 78 = .ok (.iconst 1, 1) := by decide +kernel
theorem dX4_dropFirst_79 : decode cX4_dropFirst 79 = .ok (.isub, 1) := by decide +kernel
theorem dX4_dropFirst_80 : decode cX4_dropFirst 80 = .ok (.putfield 20, 3) := by decide +kernel
theorem dX4_dropFirst_83 : decode cX4_dropFirst 83 = .ok (.return_, 1) := by decide +kernel
theorem dX4_moveFirst_0 : decode cX4_moveFirst 0 = .ok (.aload_n 0, 1) := by decide +kernel
theorem dX4_moveFirst_1 : decode cX4_moveFirst 1 = .ok (.getfield 11, 3) := by decide +kernel
theorem dX4_moveFirst_4 : decode cX4_moveFirst 4 = .ok (.arraylength, 1) := by decide +kernel
theorem dX4_moveFirst_5 : decode cX4_moveFirst 5 = .ok (.ifCond .le 12, 3) := by decide +kernel
theorem dX4_moveFirst_8 : decode cX4_moveFirst 8 = .ok (.aload_n 0, 1) := by decide +kernel
theorem dX4_moveFirst_9 : decode cX4_moveFirst 9 = .ok (.getfield 11, 3) := by decide +kernel
theorem dX4_moveFirst_12 : decode cX4_moveFirst 12 = .ok (.iconst 0, 1) := by decide +kernel
theorem dX4_moveFirst_13 : decode cX4_moveFirst 13 = .ok (.aaload, 1) := by decide +kernel
theorem dX4_moveFirst_14 : decode cX4_moveFirst 14 = .ok (.goto 4, 3) := by decide +kernel
theorem dX4_moveFirst_17 : decode cX4_moveFirst 17 = .ok (.aconst_null, 1) := by decide +kernel
theorem dX4_moveFirst_18 : decode cX4_moveFirst 18 = .ok (.astore_n 2, 1) := by decide +kernel
theorem dX4_moveFirst_19 : decode cX4_moveFirst 19 = .ok (.aload_n 2, 1) := by decide +kernel
theorem dX4_moveFirst_20 : decode cX4_moveFirst 20 = .ok (.ifnull 8, 3) := by decide +kernel
theorem dX4_moveFirst_23 : decode cX4_moveFirst 23 = .ok (.aload_n 1, 1) := by decide +kernel
theorem dX4_moveFirst_24 : decode cX4_moveFirst 24 = .ok (.aload_n 2, 1) := by decide +kernel
theorem dX4_moveFirst_25 : decode cX4_moveFirst 25 = .ok (.invokevirtual 24, 3) := by decide +kernel
theorem dX4_moveFirst_28 : decode cX4_moveFirst 28 = .ok (.aload_n 0, 1) := by decide +kernel
theorem dX4_moveFirst_29 : decode cX4_moveFirst 29 = .ok (.invokevirtual 28, 3) := by decide +kernel
theorem dX4_moveFirst_32 : decode cX4_moveFirst 32 = .ok (.return_, 1) := by decide +kernel
theorem dX3_init_0 : decode cX3_init 0 = .ok (.aload_n 0, 1) := by decide +kernel
theorem dX3_init_1 : decode cX3_init 1 = .ok (.invokespecial 3, 3) := by decide +kernel
theorem dX3_init_4 : decode cX3_init 4 = .ok (.aload_n 0, 1) := by decide +kernel
theorem dX3_init_5 : decode cX3_init 5 = .ok (.new 9, 3) := by decide +kernel
theorem dX3_init_8 : decode cX3_init 8 = .ok (.dup, 1) := by decide +kernel
theorem dX3_init_9 : decode cX3_init 9 = .ok (.bipush 64, 2) := by decide +kernel
theorem dX3_init_11 : decode cX3_init 11 = .ok (.invokespecial 11, 3) := by decide +kernel
theorem dX3_init_14 : decode cX3_init 14 = .ok (.putfield 14, 3) := by decide +kernel
theorem dX3_init_17 : decode cX3_init 17 = .ok (.aload_n 0, 1) := by decide +kernel
theorem dX3_init_18 : decode cX3_init 18 = .ok (.new 9, 3) := by decide +kernel
theorem dX3_init_21 : decode cX3_init 21 = .ok (.dup, 1) := by decide +kernel
theorem dX3_init_22 : decode cX3_init 22 = .ok (.bipush 64, 2) := by decide +kernel
theorem dX3_init_24 : decode cX3_init 24 = .ok (.invokespecial 11, 3) := by decide +kernel
theorem dX3_init_27 : decode cX3_init 27 = .ok (.putfield 20, 3) := by decide +kernel
theorem dX3_init_30 : decode cX3_init 30 = .ok (.return_, 1) := by decide +kernel
theorem dX3_keep_0 : decode cX3_keep 0 = .ok (.aload_n 0, 1) := by decide +kernel
theorem dX3_keep_1 : decode cX3_keep 1 = .ok (.getfield 14, 3) := by decide +kernel
theorem dX3_keep_4 : decode cX3_keep 4 = .ok (.aload_n 1, 1) := by decide +kernel
theorem dX3_keep_5 : decode cX3_keep 5 = .ok (.iload_n 2, 1) := by decide +kernel
theorem dX3_keep_6 : decode cX3_keep 6 = .ok (.invokestatic 23, 3) := by decide +kernel
theorem dX3_keep_9 : decode cX3_keep 9 = .ok (.aload_n 0, 1) := by decide +kernel
theorem dX3_keep_10 : decode cX3_keep 10 = .ok (.getfield 29, 3) := by decide +kernel
theorem dX3_keep_13 : decode cX3_keep 13 = .ok (.ifCond .le 50, 3) := by decide +kernel
theorem dX3_keep_16 : decode cX3_keep 16 = .ok (.aload_n 0, 1) := by decide +kernel
theorem dX3_keep_17 : decode cX3_keep 17 = .ok (.getfield 29, 3) := by decide +kernel
theorem dX3_keep_20 : decode cX3_keep 20 = .ok (.aload_n 0, 1) := by decide +kernel
theorem dX3_keep_21 : decode cX3_keep 21 = .ok (.getfield 14, 3) := by decide +kernel
theorem dX3_keep_24 : decode cX3_keep 24 = .ok (.invokevirtual 33, 3) := by decide +kernel
theorem dX3_keep_27 : decode cX3_keep 27 = .ok (.if_icmp .lt 36, 3) := by decide +kernel
theorem dX3_keep_30 : decode cX3_keep 30 = .ok (.aload_n 0, 1) := by decide +kernel
theorem dX3_keep_31 : decode cX3_keep 31 = .ok (.aload_n 0, 1) := by decide +kernel
theorem dX3_keep_32 : decode cX3_keep 32 = .ok (.getfield 14, 3) := by decide +kernel
theorem dX3_keep_35 : decode cX3_keep 35 = .ok (.invokevirtual 33, 3) := by decide +kernel
theorem dX3_keep_38 : decode cX3_keep 38 = .ok (.ifCond .le 21, 3) := by decide +kernel
theorem dX3_keep_41 : decode cX3_keep 41 = .ok (.aload_n 0, 1) := by decide +kernel
theorem dX3_keep_42 : decode cX3_keep 42 = .ok (.getfield 14, 3) := by decide +kernel
theorem dX3_keep_45 : decode cX3_keep 45 = .ok (.invokevirtual 33, 3) := by decide +kernel
theorem dX3_keep_48 : decode cX3_keep 48 = .ok (.iconst 1, 1) := by decide +kernel
theorem dX3_keep_49 : decode cX3_keep 49 = .ok (.isub, 1) := by decide +kernel
theorem dX3_keep_50 : decode cX3_keep 50 = .ok (.bipush 10, 2) := by decide +kernel
theorem dX3_keep_52 : decode cX3_keep 52 = .ok (.idiv, 1) := by decide +kernel
theorem dX3_keep_53 : decode cX3_keep 53 = .ok (.bipush 10, 2) := by decide +kernel
theorem dX3_keep_55 : decode cX3_keep 55 = .ok (.imul, 1) := by decide +kernel
theorem dX3_keep_56 : decode cX3_keep 56 = .ok (.goto 4, 3) := by decide +kernel
theorem dX3_keep_59 : decode cX3_keep 59 = .ok (.iconst 0, 1) := by decide +kernel
theorem dX3_keep_60 : decode cX3_keep 60 = .ok (.putfield 29, 3) := by decide +kernel
theorem dX3_keep_63 : decode cX3_keep 63 = .ok (.return_, 1) := by decide +kernel
theorem dX3_goLeft_0 : decode cX3_goLeft 0 = .ok (.aload_n 0, 1) := by decide +kernel
theorem dX3_goLeft_1 : decode cX3_goLeft 1 = .ok (.getfield 29, 3) := by decide +kernel
theorem dX3_goLeft_4 : decode cX3_goLeft 4 = .ok (.ifCond .le 14, 3) := by decide +kernel
theorem dX3_goLeft_7 : decode cX3_goLeft 7 = .ok (.aload_n 0, 1) := by decide +kernel
theorem dX3_goLeft_8 : decode cX3_goLeft 8 = .ok (.dup, 1) := by decide +kernel
theorem dX3_goLeft_9 : decode cX3_goLeft 9 = .ok (.getfield 29, 3) := by decide +kernel
theorem dX3_goLeft_12 : decode cX3_goLeft 12 = .ok (.bipush 10, 2) := by decide +kernel
theorem dX3_goLeft_14 : decode cX3_goLeft 14 = .ok (.isub, 1) := by decide +kernel
theorem dX3_goLeft_15 : decode cX3_goLeft 15 = .ok (.putfield 29, 3) := by decide +kernel
theorem dX3_goLeft_18 : decode cX3_goLeft 18 = .ok (.return_, 1) := by decide +kernel
theorem dX3_goRight_0 : decode cX3_goRight 0 = .ok (.aload_n 0, 1) := by decide +kernel
theorem dX3_goRight_1 : decode cX3_goRight 1 = .ok (.getfield 29, 3) := by decide +kernel
theorem dX3_goRight_4 : decode cX3_goRight 4 = .ok (.bipush 10, 2) := by decide +kernel
theorem dX3_goRight_6 : decode cX3_goRight 6 = .ok (.iadd, 1) := by decide +kernel
theorem dX3_goRight_7 : decode cX3_goRight 7 = .ok (.aload_n 0, 1) := by decide +kernel
theorem dX3_goRight_8 : decode cX3_goRight 8 = .ok (.getfield 14, 3) := by decide +kernel
theorem dX3_goRight_11 : decode cX3_goRight 11 = .ok (.invokevirtual 33, 3) := by decide +kernel
theorem dX3_goRight_14 : decode cX3_goRight 14 = .ok (.if_icmp .ge 14, 3) := by decide +kernel
theorem dX3_goRight_17 : decode cX3_goRight 17 = .ok (.aload_n 0, 1) := by decide +kernel
theorem dX3_goRight_18 : decode cX3_goRight 18 = .ok (.dup, 1) := by decide +kernel
theorem dX3_goRight_19 : decode cX3_goRight 19 = .ok (.getfield 29, 3) := by decide +kernel
theorem dX3_goRight_22 : decode cX3_goRight 22 = .ok (.bipush 10, 2) := by decide +kernel
theorem dX3_goRight_24 : decode cX3_goRight 24 = .ok (.iadd, 1) := by decide +kernel
theorem dX3_goRight_25 : decode cX3_goRight 25 = .ok (.putfield 29, 3) := by decide +kernel
theorem dX3_goRight_28 : decode cX3_goRight 28 = .ok (.return_, 1) := by decide +kernel
theorem dX3_cellOf_0 : decode cX3_cellOf 0 = .ok (.aload_n 0, 1) := by decide +kernel
theorem dX3_cellOf_1 : decode cX3_cellOf 1 = .ok (.getfield 29, 3) := by decide +kernel
theorem dX3_cellOf_4 : decode cX3_cellOf 4 = .ok (.iload_n 2, 1) := by decide +kernel
theorem dX3_cellOf_5 : decode cX3_cellOf 5 = .ok (.iadd, 1) := by decide +kernel
theorem dX3_cellOf_6 : decode cX3_cellOf 6 = .ok (.istore_n 3, 1) := by decide +kernel
theorem dX3_cellOf_7 : decode cX3_cellOf 7 = .ok (.iload_n 3, 1) := by decide +kernel
theorem dX3_cellOf_8 : decode cX3_cellOf 8 = .ok (.aload_n 1, 1) := by decide +kernel
theorem dX3_cellOf_9 : decode cX3_cellOf 9 = .ok (.invokevirtual 33, 3) := by decide +kernel
theorem dX3_cellOf_12 : decode cX3_cellOf 12 = .ok (.if_icmp .ge 11, 3) := by decide +kernel
theorem dX3_cellOf_15 : decode cX3_cellOf 15 = .ok (.aload_n 1, 1) := by decide +kernel
theorem dX3_cellOf_16 : decode cX3_cellOf 16 = .ok (.iload_n 3, 1) := by decide +kernel
theorem dX3_cellOf_17 : decode cX3_cellOf 17 = .ok (.invokevirtual 41, 3) := by decide +kernel
theorem dX3_cellOf_20 : decode cX3_cellOf 20 = .ok (.goto 4, 3) := by decide +kernel
theorem dX3_cellOf_23 : decode cX3_cellOf 23 = .ok (.iconst 0, 1) := by decide +kernel
theorem dX3_cellOf_24 : decode cX3_cellOf 24 = .ok (.ireturn, 1) := by decide +kernel
theorem dX3_cell_0 : decode cX3_cell 0 = .ok (.aload_n 0, 1) := by decide +kernel
theorem dX3_cell_1 : decode cX3_cell 1 = .ok (.aload_n 0, 1) := by decide +kernel
theorem dX3_cell_2 : decode cX3_cell 2 = .ok (.getfield 14, 3) := by decide +kernel
theorem dX3_cell_5 : decode cX3_cell 5 = .ok (.iload_n 1, 1) := by decide +kernel
theorem dX3_cell_6 : decode cX3_cell 6 = .ok (.invokevirtual 37, 3) := by decide +kernel
theorem dX3_cell_9 : decode cX3_cell 9 = .ok (.ireturn, 1) := by decide +kernel
theorem dX3_cellAnew_0 : decode cX3_cellAnew 0 = .ok (.aload_n 0, 1) := by decide +kernel
theorem dX3_cellAnew_1 : decode cX3_cellAnew 1 = .ok (.getfield 20, 3) := by decide +kernel
theorem dX3_cellAnew_4 : decode cX3_cellAnew 4 = .ok (.aload_n 1, 1) := by decide +kernel
theorem dX3_cellAnew_5 : decode cX3_cellAnew 5 = .ok (.iload_n 2, 1) := by decide +kernel
theorem dX3_cellAnew_6 : decode cX3_cellAnew 6 = .ok (.invokestatic 23, 3) := by decide +kernel
theorem dX3_cellAnew_9 : decode cX3_cellAnew 9 = .ok (.aload_n 0, 1) := by decide +kernel
theorem dX3_cellAnew_10 : decode cX3_cellAnew 10 = .ok (.aload_n 0, 1) := by decide +kernel
theorem dX3_cellAnew_11 : decode cX3_cellAnew 11 = .ok (.getfield 20, 3) := by decide +kernel
theorem dX3_cellAnew_14 : decode cX3_cellAnew 14 = .ok (.iload_n 3, 1) := by decide +kernel
theorem dX3_cellAnew_15 : decode cX3_cellAnew 15 = .ok (.invokevirtual 37, 3) := by decide +kernel
theorem dX3_cellAnew_18 : decode cX3_cellAnew 18 = .ok (.ireturn, 1) := by decide +kernel
theorem dX9_init_0 : decode cX9_init 0 = .ok (.aload_n 0, 1) := by decide +kernel
theorem dX9_init_1 : decode cX9_init 1 = .ok (.invokespecial 3, 3) := by decide +kernel
theorem dX9_init_4 : decode cX9_init 4 = .ok (.aload_n 0, 1) := by decide +kernel
theorem dX9_init_5 : decode cX9_init 5 = .ok (.new 9, 3) := by decide +kernel
theorem dX9_init_8 : decode cX9_init 8 = .ok (.dup, 1) := by decide +kernel
theorem dX9_init_9 : decode cX9_init 9 = .ok (.bipush 6, 2) := by decide +kernel
theorem dX9_init_11 : decode cX9_init 11 = .ok (.invokespecial 11, 3) := by decide +kernel
theorem dX9_init_14 : decode cX9_init 14 = .ok (.putfield 14, 3) := by decide +kernel
theorem dX9_init_17 : decode cX9_init 17 = .ok (.aload_n 0, 1) := by decide +kernel
theorem dX9_init_18 : decode cX9_init 18 = .ok (.new 9, 3) := by decide +kernel
theorem dX9_init_21 : decode cX9_init 21 = .ok (.dup, 1) := by decide +kernel
theorem dX9_init_22 : decode cX9_init 22 = .ok (.bipush 21, 2) := by decide +kernel
theorem dX9_init_24 : decode cX9_init 24 = .ok (.invokespecial 11, 3) := by decide +kernel
theorem dX9_init_27 : decode cX9_init 27 = .ok (.putfield 20, 3) := by decide +kernel
theorem dX9_init_30 : decode cX9_init 30 = .ok (.aload_n 0, 1) := by decide +kernel
theorem dX9_init_31 : decode cX9_init 31 = .ok (.new 23, 3) := by decide +kernel
theorem dX9_init_34 : decode cX9_init 34 = .ok (.dup, 1) := by decide +kernel
theorem dX9_init_35 : decode cX9_init 35 = .ok (.bipush 80, 2) := by decide +kernel
theorem dX9_init_37 : decode cX9_init 37 = .ok (.invokespecial 25, 3) := by decide +kernel
theorem dX9_init_40 : decode cX9_init 40 = .ok (.putfield 26, 3) := by decide +kernel
theorem dX9_init_43 : decode cX9_init 43 = .ok (.aload_n 0, 1) := by decide +kernel
theorem dX9_init_44 : decode cX9_init 44 = .ok (.new 23, 3) := by decide +kernel
theorem dX9_init_47 : decode cX9_init 47 = .ok (.dup, 1) := by decide +kernel
theorem dX9_init_48 : decode cX9_init 48 = .ok (.bipush 80, 2) := by decide +kernel
theorem dX9_init_50 : decode cX9_init 50 = .ok (.invokespecial 25, 3) := by decide +kernel
theorem dX9_init_53 : decode cX9_init 53 = .ok (.putfield 30, 3) := by decide +kernel
theorem dX9_init_56 : decode cX9_init 56 = .ok (.aload_n 0, 1) := by decide +kernel
theorem dX9_init_57 : decode cX9_init 57 = .ok (.iconst (-1), 1) := by decide +kernel
theorem dX9_init_58 : decode cX9_init 58 = .ok (.putfield 33, 3) := by decide +kernel
theorem dX9_init_61 : decode cX9_init 61 = .ok (.aload_n 0, 1) := by decide +kernel
theorem dX9_init_62 : decode cX9_init 62 = .ok (.bipush 100, 2) := by decide +kernel
theorem dX9_init_64 : decode cX9_init 64 = .ok (.newarray .int, 2) := by decide +kernel
theorem dX9_init_66 : decode cX9_init 66 = .ok (.putfield 37, 3) := by decide +kernel
theorem dX9_init_69 : decode cX9_init 69 = .ok (.return_, 1) := by decide +kernel
theorem dX9_countWaiting_0 : decode cX9_countWaiting 0 = .ok (.iload_n 1, 1) := by decide +kernel
theorem dX9_countWaiting_1 : decode cX9_countWaiting 1 = .ok (.lookupswitch 48 #[(0, 27), (1, 35)], 27) := by decide +kernel
theorem dX9_countWaiting_28 : decode cX9_countWaiting 28 = .ok (.aload_n 0, 1) := by decide +kernel
theorem dX9_countWaiting_29 : decode cX9_countWaiting 29 = .ok (.getfield 14, 3) := by decide +kernel
theorem dX9_countWaiting_32 : decode cX9_countWaiting 32 = .ok (.invokevirtual 41, 3) := by decide +kernel
theorem dX9_countWaiting_35 : decode cX9_countWaiting 35 = .ok (.ireturn, 1) := by decide +kernel
theorem dX9_countWaiting_36 : decode cX9_countWaiting 36 = .ok (.aload_n 0, 1) := by decide +kernel
theorem dX9_countWaiting_37 : decode cX9_countWaiting 37 = .ok (.getfield 45, 3) := by decide +kernel
theorem dX9_countWaiting_40 : decode cX9_countWaiting 40 = .ok (.ifCond .eq 7, 3) := by decide +kernel
theorem dX9_countWaiting_43 : decode cX9_countWaiting 43 = .ok (.iconst 1, 1) := by decide +kernel
theorem dX9_countWaiting_44 : decode cX9_countWaiting 44 = .ok (.goto 4, 3) := by decide +kernel
theorem dX9_countWaiting_47 : decode cX9_countWaiting 47 = .ok (.iconst 0, 1) := by decide +kernel
theorem dX9_countWaiting_48 : decode cX9_countWaiting 48 = .ok (.ireturn, 1) := by decide +kernel
theorem dX9_countWaiting_49 : decode cX9_countWaiting 49 = .ok (.aload_n 0, 1) := by decide +kernel
theorem dX9_countWaiting_50 : decode cX9_countWaiting 50 = .ok (.getfield 20, 3) := by decide +kernel
theorem dX9_countWaiting_53 : decode cX9_countWaiting 53 = .ok (.invokevirtual 41, 3) := by decide +kernel
theorem dX9_countWaiting_56 : decode cX9_countWaiting 56 = .ok (.ireturn, 1) := by decide +kernel
theorem dX9_comeNews_0 : decode cX9_comeNews 0 = .ok (.aload_n 1, 1) := by decide +kernel
theorem dX9_comeNews_1 : decode cX9_comeNews 1 = .ok (.invokevirtual 49, 3) := by decide +kernel
theorem dX9_comeNews_4 : decode cX9_comeNews 4 = .ok (.ifCond .ne 4, 3) := by decide +kernel
theorem dX9_comeNews_7 : decode cX9_comeNews 7 = .ok (.return_, 1) := by decide +kernel
theorem dX9_comeNews_8 : decode cX9_comeNews 8 = .ok (.aload_n 0, 1) := by decide +kernel
theorem dX9_comeNews_9 : decode cX9_comeNews 9 = .ok (.getfield 14, 3) := by decide +kernel
theorem dX9_comeNews_12 : decode cX9_comeNews 12 = .ok (.aload_n 1, 1) := by decide +kernel
theorem dX9_comeNews_13 : decode cX9_comeNews 13 = .ok (.invokevirtual 53, 3) := by decide +kernel
theorem dX9_comeNews_16 : decode cX9_comeNews 16 = .ok (.aload_n 0, 1) := by decide +kernel
theorem dX9_comeNews_17 : decode cX9_comeNews 17 = .ok (.getfield 14, 3) := by decide +kernel
theorem dX9_comeNews_20 : decode cX9_comeNews 20 = .ok (.invokevirtual 41, 3) := by decide +kernel
theorem dX9_comeNews_23 : decode cX9_comeNews 23 = .ok (.bipush 6, 2) := by decide +kernel
theorem dX9_comeNews_25 : decode cX9_comeNews 25 = .ok (.if_icmp .lt 20, 3) := by decide +kernel
theorem dX9_comeNews_28 : decode cX9_comeNews 28 = .ok (.aload_n 0, 1) := by decide +kernel
theorem dX9_comeNews_29 : decode cX9_comeNews 29 = .ok (.getfield 14, 3) := by decide +kernel
theorem dX9_comeNews_32 : decode cX9_comeNews 32 = .ok (.invokevirtual 57, 3) := by decide +kernel
theorem dX9_comeNews_35 : decode cX9_comeNews 35 = .ok (.aload_n 0, 1) := by decide +kernel
theorem dX9_comeNews_36 : decode cX9_comeNews 36 = .ok (.dup, 1) := by decide +kernel
theorem dX9_comeNews_37 : decode cX9_comeNews 37 = .ok (.getfield 60, 3) := by decide +kernel
theorem dX9_comeNews_40 : decode cX9_comeNews 40 = .ok (.iconst 1, 1) := by decide +kernel
theorem dX9_comeNews_41 : decode cX9_comeNews 41 = .ok (.iadd, 1) := by decide +kernel
theorem dX9_comeNews_42 : decode cX9_comeNews 42 = .ok (.putfield 60, 3) := by decide +kernel
theorem dX9_comeNews_45 : decode cX9_comeNews 45 = .ok (.return_, 1) := by decide +kernel
theorem dX9_dropAnswerThatWaits_0 : decode cX9_dropAnswerThatWaits 0 = .ok (.aload_n 0, 1) := by decide +kernel
theorem dX9_dropAnswerThatWaits_1 : decode cX9_dropAnswerThatWaits 1 = .ok (.getfield 45, 3) := by decide +kernel
theorem dX9_dropAnswerThatWaits_4 : decode cX9_dropAnswerThatWaits 4 = .ok (.ifCond .eq 18, 3) := by decide +kernel
theorem dX9_dropAnswerThatWaits_7 : decode cX9_dropAnswerThatWaits 7 = .ok (.aload_n 0, 1) := by decide +kernel
theorem dX9_dropAnswerThatWaits_8 : decode cX9_dropAnswerThatWaits 8 = .ok (.iconst 0, 1) := by decide +kernel
theorem dX9_dropAnswerThatWaits_9 : decode cX9_dropAnswerThatWaits 9 = .ok (.putfield 45, 3) := by decide +kernel
theorem dX9_dropAnswerThatWaits_12 : decode cX9_dropAnswerThatWaits 12 = .ok (.aload_n 0, 1) := by decide +kernel
theorem dX9_dropAnswerThatWaits_13 : decode cX9_dropAnswerThatWaits 13 = .ok (.dup, 1) := by decide +kernel
theorem dX9_dropAnswerThatWaits_14 : decode cX9_dropAnswerThatWaits 14 = .ok (.getfield 60, 3) := by decide +kernel
theorem dX9_dropAnswerThatWaits_17 : decode cX9_dropAnswerThatWaits 17 = .ok (.iconst 1, 1) := by decide +kernel
theorem dX9_dropAnswerThatWaits_18 : decode cX9_dropAnswerThatWaits 18 = .ok (.iadd, 1) := by decide +kernel
theorem dX9_dropAnswerThatWaits_19 : decode cX9_dropAnswerThatWaits 19 = .ok (.putfield 60, 3) := by decide +kernel
theorem dX9_dropAnswerThatWaits_22 : decode cX9_dropAnswerThatWaits 22 = .ok (.return_, 1) := by decide +kernel
theorem dX9_dropSpokenBelowAlert_0 : decode cX9_dropSpokenBelowAlert 0 = .ok (.aload_n 0, 1) := by decide +kernel
theorem dX9_dropSpokenBelowAlert_1 : decode cX9_dropSpokenBelowAlert 1 = .ok (.getfield 33, 3) := by decide +kernel
theorem dX9_dropSpokenBelowAlert_4 : decode cX9_dropSpokenBelowAlert 4 = .ok (.ifCond .eq 11, 3) := by decide +kernel
theorem dX9_dropSpokenBelowAlert_7 : decode cX9_dropSpokenBelowAlert 7 = .ok (.aload_n 0, 1) := by decide +kernel
theorem dX9_dropSpokenBelowAlert_8 : decode cX9_dropSpokenBelowAlert 8 = .ok (.getfield 33, 3) := by decide +kernel
theorem dX9_dropSpokenBelowAlert_11 : decode cX9_dropSpokenBelowAlert 11 = .ok (.iconst 1, 1) := by decide +kernel
theorem dX9_dropSpokenBelowAlert_12 : decode cX9_dropSpokenBelowAlert 12 = .ok (.if_icmp .ne 18, 3) := by decide +kernel
theorem dX9_dropSpokenBelowAlert_15 : decode cX9_dropSpokenBelowAlert 15 = .ok (.aload_n 0, 1) := by decide +kernel
theorem dX9_dropSpokenBelowAlert_16 : decode cX9_dropSpokenBelowAlert 16 = .ok (.iconst (-1), 1) := by decide +kernel
theorem dX9_dropSpokenBelowAlert_17 : decode cX9_dropSpokenBelowAlert 17 = .ok (.putfield 33, 3) := by decide +kernel
theorem dX9_dropSpokenBelowAlert_20 : decode cX9_dropSpokenBelowAlert 20 = .ok (.aload_n 0, 1) := by decide +kernel
theorem dX9_dropSpokenBelowAlert_21 : decode cX9_dropSpokenBelowAlert 21 = .ok (.dup, 1) := by decide +kernel
theorem dX9_dropSpokenBelowAlert_22 : decode cX9_dropSpokenBelowAlert 22 = .ok (.getfield 60, 3) := by decide +kernel
theorem dX9_dropSpokenBelowAlert_25 : decode cX9_dropSpokenBelowAlert 25 = .ok (.iconst 1, 1) := by decide +kernel
theorem dX9_dropSpokenBelowAlert_26 : decode cX9_dropSpokenBelowAlert 26 = .ok (.iadd, 1) := by decide +kernel
theorem dX9_dropSpokenBelowAlert_27 : decode cX9_dropSpokenBelowAlert 27 = .ok (.putfield 60, 3) := by decide +kernel
theorem dX9_dropSpokenBelowAlert_30 : decode cX9_dropSpokenBelowAlert 30 = .ok (.return_, 1) := by decide +kernel
abbrev mX4_dropFirst : gM := (yX4_dropFirst, cX4_dropFirst, 3, (Option.none : Option FieldType), [])
theorem caX4_dropFirst : cal mX4_dropFirst 0 := ⟨xw 835 (by decide +kernel) rfl, xw 34 (by decide +kernel) rfl, by decide, by decide +kernel⟩
theorem cvX4_dropFirst : calV mX4_dropFirst := ⟨xw 833 (by decide +kernel) rfl, xw 834 (by decide +kernel) rfl⟩
abbrev mX4_moveFirst : gM := (yX4_moveFirst, cX4_moveFirst, 3, (Option.none : Option FieldType), [])
theorem caX4_moveFirst : cal mX4_moveFirst 1 := ⟨xw 852 (by decide +kernel) rfl, xw 34 (by decide +kernel) rfl, by decide, by decide +kernel⟩
theorem cvX4_moveFirst : calV mX4_moveFirst := ⟨xw 850 (by decide +kernel) rfl, xw 851 (by decide +kernel) rfl⟩
abbrev mX3_init : gM := (yX3_init, cX3_init, 1, (Option.none : Option FieldType), [])
theorem caX3_init : cal mX3_init 0 := ⟨xw 273 (by decide +kernel) rfl, xw 37 (by decide +kernel) rfl, by decide, by decide +kernel⟩
theorem ciX3_init : Cond.instanceMethod yX3_init ∈ XW := xw 272 (by decide +kernel) rfl
abbrev mX3_keep : gM := (yX3_keep, cX3_keep, 3, (Option.none : Option FieldType), [])
theorem caX3_keep : cal mX3_keep 2 := ⟨xw 313 (by decide +kernel) rfl, xw 37 (by decide +kernel) rfl, by decide, by decide +kernel⟩
theorem cvX3_keep : calV mX3_keep := ⟨xw 311 (by decide +kernel) rfl, xw 312 (by decide +kernel) rfl⟩
abbrev mX3_goLeft : gM := (yX3_goLeft, cX3_goLeft, 1, (Option.none : Option FieldType), [])
theorem caX3_goLeft : cal mX3_goLeft 0 := ⟨xw 729 (by decide +kernel) rfl, xw 37 (by decide +kernel) rfl, by decide, by decide +kernel⟩
theorem cvX3_goLeft : calV mX3_goLeft := ⟨xw 727 (by decide +kernel) rfl, xw 728 (by decide +kernel) rfl⟩
abbrev mX3_goRight : gM := (yX3_goRight, cX3_goRight, 1, (Option.none : Option FieldType), [])
theorem caX3_goRight : cal mX3_goRight 0 := ⟨xw 733 (by decide +kernel) rfl, xw 37 (by decide +kernel) rfl, by decide, by decide +kernel⟩
theorem cvX3_goRight : calV mX3_goRight := ⟨xw 731 (by decide +kernel) rfl, xw 732 (by decide +kernel) rfl⟩
abbrev mX3_cellOf : gM := (yX3_cellOf, cX3_cellOf, 4, (Option.some FieldType.int), [])
theorem caX3_cellOf : cal mX3_cellOf 2 := ⟨xw 1228 (by decide +kernel) rfl, xw 37 (by decide +kernel) rfl, by decide, by decide +kernel⟩
theorem cvX3_cellOf : calV mX3_cellOf := ⟨xw 1227 (by decide +kernel) rfl, xw 27 (by decide +kernel) rfl⟩
abbrev mX3_cell : gM := (yX3_cell, cX3_cell, 2, (Option.some FieldType.int), [])
theorem caX3_cell : cal mX3_cell 1 := ⟨xw 1224 (by decide +kernel) rfl, xw 37 (by decide +kernel) rfl, by decide, by decide +kernel⟩
theorem cvX3_cell : calV mX3_cell := ⟨xw 1222 (by decide +kernel) rfl, xw 1223 (by decide +kernel) rfl⟩
abbrev mX3_cellAnew : gM := (yX3_cellAnew, cX3_cellAnew, 4, (Option.some FieldType.int), [])
theorem caX3_cellAnew : cal mX3_cellAnew 3 := ⟨xw 1241 (by decide +kernel) rfl, xw 37 (by decide +kernel) rfl, by decide, by decide +kernel⟩
theorem cvX3_cellAnew : calV mX3_cellAnew := ⟨xw 1239 (by decide +kernel) rfl, xw 1240 (by decide +kernel) rfl⟩
abbrev mX9_init : gM := (yX9_init, cX9_init, 1, (Option.none : Option FieldType), [])
theorem caX9_init : cal mX9_init 0 := ⟨xw 184 (by decide +kernel) rfl, xw 33 (by decide +kernel) rfl, by decide, by decide +kernel⟩
theorem ciX9_init : Cond.instanceMethod yX9_init ∈ XW := xw 183 (by decide +kernel) rfl
abbrev mX9_countWaiting : gM := (yX9_countWaiting, cX9_countWaiting, 2, (Option.some FieldType.int), [])
theorem caX9_countWaiting : cal mX9_countWaiting 1 := ⟨xw 863 (by decide +kernel) rfl, xw 33 (by decide +kernel) rfl, by decide, by decide +kernel⟩
theorem cvX9_countWaiting : calV mX9_countWaiting := ⟨xw 861 (by decide +kernel) rfl, xw 862 (by decide +kernel) rfl⟩
abbrev mX9_comeNews : gM := (yX9_comeNews, cX9_comeNews, 2, (Option.none : Option FieldType), [])
theorem caX9_comeNews : cal mX9_comeNews 1 := ⟨xw 826 (by decide +kernel) rfl, xw 33 (by decide +kernel) rfl, by decide, by decide +kernel⟩
theorem cvX9_comeNews : calV mX9_comeNews := ⟨xw 824 (by decide +kernel) rfl, xw 825 (by decide +kernel) rfl⟩
abbrev mX9_dropAnswerThatWaits : gM := (yX9_dropAnswerThatWaits, cX9_dropAnswerThatWaits, 1, (Option.none : Option FieldType), [])
theorem caX9_dropAnswerThatWaits : cal mX9_dropAnswerThatWaits 0 := ⟨xw 609 (by decide +kernel) rfl, xw 33 (by decide +kernel) rfl, by decide, by decide +kernel⟩
theorem cvX9_dropAnswerThatWaits : calV mX9_dropAnswerThatWaits := ⟨xw 608 (by decide +kernel) rfl, xw 4 (by decide +kernel) rfl⟩
abbrev mX9_dropSpokenBelowAlert : gM := (yX9_dropSpokenBelowAlert, cX9_dropSpokenBelowAlert, 1, (Option.none : Option FieldType), [])
theorem caX9_dropSpokenBelowAlert : cal mX9_dropSpokenBelowAlert 0 := ⟨xw 613 (by decide +kernel) rfl, xw 33 (by decide +kernel) rfl, by decide, by decide +kernel⟩
theorem cvX9_dropSpokenBelowAlert : calV mX9_dropSpokenBelowAlert := ⟨xw 612 (by decide +kernel) rfl, xw 5 (by decide +kernel) rfl⟩
theorem lkX4_28 : Cond.methodLink RX4 28 yX4_dropFirst ∈ XW := xw 853 (by decide +kernel) rfl
theorem lkX3_3 : Cond.methodLink RX3 3 objectInit ∈ XW := xw 274 (by decide +kernel) rfl
theorem ccX3_9 : Cond.classLink RX3 9 (hk_C 0) ∈ XW := xw 275 (by decide +kernel) rfl
theorem lkX3_11 : Cond.methodLink RX3 11 yX1_init ∈ XW := xw 276 (by decide +kernel) rfl
theorem flX3_14 : fl RX3 14 2 0 := ⟨by decide, by decide, xw 277 (by decide +kernel) rfl⟩
theorem flX3_20 : fl RX3 20 2 1 := ⟨by decide, by decide, xw 279 (by decide +kernel) rfl⟩
theorem pl_X3 : plainName RX3 = true := by decide +kernel
theorem lkX3_23 : Cond.methodLink RX3 23 yX0_writeLine ∈ XW := xw 314 (by decide +kernel) rfl
theorem flX3_29 : fl RX3 29 2 2 := ⟨by decide, by decide, xw 280 (by decide +kernel) rfl⟩
theorem lkX3_33 : Cond.methodLink RX3 33 yX1_size ∈ XW := xw 421 (by decide +kernel) rfl
theorem lkX3_41 : Cond.methodLink RX3 41 yX1_at ∈ XW := xw 1229 (by decide +kernel) rfl
theorem lkX3_37 : Cond.methodLink RX3 37 yX3_cellOf ∈ XW := xw 1225 (by decide +kernel) rfl
theorem lkX9_3 : Cond.methodLink RX9 3 objectInit ∈ XW := xw 185 (by decide +kernel) rfl
theorem ccX9_9 : Cond.classLink RX9 9 (hk_C 3) ∈ XW := xw 186 (by decide +kernel) rfl
theorem ins_3 : Cond.instantiable (hk_C 3) (hk_N 3) ∈ XW := xw 187 (by decide +kernel) rfl
theorem ini_3 : Cond.initialized (hk_C 3) ∈ XW := xw 34 (by decide +kernel) rfl
theorem lkX9_11 : Cond.methodLink RX9 11 yX4_init ∈ XW := xw 188 (by decide +kernel) rfl
theorem flX9_14 : fl RX9 14 8 0 := ⟨by decide, by decide, xw 204 (by decide +kernel) rfl⟩
theorem flX9_20 : fl RX9 20 8 1 := ⟨by decide, by decide, xw 205 (by decide +kernel) rfl⟩
theorem ccX9_23 : Cond.classLink RX9 23 (hk_C 0) ∈ XW := xw 202 (by decide +kernel) rfl
theorem lkX9_25 : Cond.methodLink RX9 25 yX1_init ∈ XW := xw 203 (by decide +kernel) rfl
theorem flX9_26 : fl RX9 26 8 2 := ⟨by decide, by decide, xw 206 (by decide +kernel) rfl⟩
theorem flX9_30 : fl RX9 30 8 5 := ⟨by decide, by decide, xw 209 (by decide +kernel) rfl⟩
theorem flX9_33 : fl RX9 33 8 7 := ⟨by decide, by decide, xw 211 (by decide +kernel) rfl⟩
theorem flX9_37 : fl RX9 37 8 8 := ⟨by decide, by decide, xw 212 (by decide +kernel) rfl⟩
theorem pl_X9 : plainName RX9 = true := by decide +kernel
theorem lkX9_41 : Cond.methodLink RX9 41 yX4_size ∈ XW := xw 718 (by decide +kernel) rfl
theorem flX9_45 : fl RX9 45 8 4 := ⟨by decide, by decide, xw 208 (by decide +kernel) rfl⟩
theorem lkX9_49 : Cond.methodLink RX9 49 yX1_size ∈ XW := xw 605 (by decide +kernel) rfl
theorem lkX9_53 : Cond.methodLink RX9 53 yX4_put ∈ XW := xw 827 (by decide +kernel) rfl
theorem lkX9_57 : Cond.methodLink RX9 57 yX4_dropFirst ∈ XW := xw 832 (by decide +kernel) rfl
theorem flX9_60 : fl RX9 60 8 10 := ⟨by decide, by decide, xw 215 (by decide +kernel) rfl⟩
/-! BrailleDesk$Queue.dropFirst -/
theorem lX4_dropFirst_29 {G : gG} {Q : hQ} {P : hp → Prop} {k n : Nat} (c0 : Nat) (c1 : (Option Nat)) (hJ : ∀ q : hp, P q → gV G mX4_dropFirst 0 Q 60 [some (sr (some c0)), some (sr c1), none] [] (k) (n) q) : ∀ (fu : Nat) (a : (Int32 × hp)), okB (itr (fX4_dropFirst_B29 c0 c1) fu a) P → gV G mX4_dropFirst 0 Q 29 [some (sr (some c0)), some (sr c1), some (si a.1)] [] (k) (n) a.2 :=
  lpg (X := fun (a : (Int32 × hp)) => gV G mX4_dropFirst 0 Q 29 [some (sr (some c0)), some (sr c1), some (si a.1)] [] (k) (n) a.2) (fun a P2 hL hE hF => by
    delta fX4_dropFirst_B29 at hF
    refine v_iload_n (pc := 29) (i := 2) dX4_dropFirst_29 rfl rfl ?_
    refine v_iconst (pc := 30) (v := (1 : Int32)) dX4_dropFirst_30 rfl ?_
    refine v_iadd (pc := 31) dX4_dropFirst_31 ?_
    refine v_aload_n (pc := 32) (i := 0) dX4_dropFirst_32 rfl rfl ?_
    refine s_getR (pc := 33) dX4_dropFirst_33 flX4_11 rfl hF (fun x1 hF => ?_)
    refine s_alen (pc := 36) dX4_dropFirst_36 hF (fun x2 hF => ?_)
    refine v_icmp_ge (pc := 37) 60 dX4_dropFirst_37 rfl (fun hc => ?_) (fun hc => ?_)
    · replace hF := (okB_if hF).1 hc
      exact v_lle [some (sr (some c0)), some (sr c1), none] ⟨rfl, rfl, trivial⟩ (hJ a.2 (hE _ (okB_some hF)))
    replace hF := (okB_if hF).2 hc
    refine v_aload_n (pc := 40) (i := 0) dX4_dropFirst_40 rfl rfl ?_
    refine s_getR (pc := 41) dX4_dropFirst_41 flX4_11 rfl hF (fun x3 hF => ?_)
    refine v_iload_n (pc := 44) (i := 2) dX4_dropFirst_44 rfl rfl ?_
    refine v_aload_n (pc := 45) (i := 0) dX4_dropFirst_45 rfl rfl ?_
    refine s_getR (pc := 46) dX4_dropFirst_46 flX4_11 rfl hF (fun x4 hF => ?_)
    refine v_iload_n (pc := 49) (i := 2) dX4_dropFirst_49 rfl rfl ?_
    refine v_iconst (pc := 50) (v := (1 : Int32)) dX4_dropFirst_50 rfl ?_
    refine v_iadd (pc := 51) dX4_dropFirst_51 ?_
    refine s_aald23 (pc := 52) dX4_dropFirst_52 hF (fun x5 hF => ?_)
    refine s_aast23 (pc := 53) dX4_dropFirst_53 hF (fun h6 hF => ?_)
    refine v_iinc (pc := 54) (i := 2) (a.1 + (1 : Int32)) [some (sr (some c0)), some (sr c1), some (si (a.1 + (1 : Int32)))] dX4_dropFirst_54 rfl rfl rfl rfl ?_
    refine v_goto (pc := 57) 29 dX4_dropFirst_57 rfl ?_
    exact v_lle [some (sr (some c0)), some (sr c1), some (si (a.1 + (1 : Int32)))] ⟨rfl, rfl, rfl, trivial⟩ (hL (a.1 + (1 : Int32), h6) (okB_some hF)))
theorem tX4_dropFirst {G : gG} (a0 : Nat) (h : hp) (Q : hQ) (hF : okB (fX4_dropFirst a0 h) (pH gU Q)) : gS G mX4_dropFirst 0 0 0 [sr (some a0)] h Q := by
  delta fX4_dropFirst at hF
  refine gS_at [some (sr (some a0)), none, none] pl_X4 rfl (Nat.le_of_ble_eq_true rfl) rfl ?_
  refine v_aload_n (pc := 0) (i := 0) dX4_dropFirst_0 rfl rfl ?_
  refine s_getI (pc := 1) dX4_dropFirst_1 flX4_20 rfl hF (fun x1 hF => ?_)
  refine v_if_le (pc := 4) 19 dX4_dropFirst_4 rfl (fun hc => ?_) (fun hc => ?_)
  · replace hF := (okB_if hF).1 hc
    exact v_ret (pc := 19) dX4_dropFirst_19 rfl (okr hF fun q => q)
  replace hF := (okB_if hF).2 hc
  refine v_aload_n (pc := 7) (i := 0) dX4_dropFirst_7 rfl rfl ?_
  refine s_getI (pc := 8) dX4_dropFirst_8 flX4_20 rfl hF (fun x2 hF => ?_)
  refine v_aload_n (pc := 11) (i := 0) dX4_dropFirst_11 rfl rfl ?_
  refine s_getR (pc := 12) dX4_dropFirst_12 flX4_11 rfl hF (fun x3 hF => ?_)
  refine s_alen (pc := 15) dX4_dropFirst_15 hF (fun x4 hF => ?_)
  refine v_icmp_le (pc := 16) 20 dX4_dropFirst_16 rfl (fun hc => ?_) (fun hc => ?_)
  · replace hF := (okB_if hF).1 hc
    refine v_aload_n (pc := 20) (i := 0) dX4_dropFirst_20 rfl rfl ?_
    refine s_getR (pc := 21) dX4_dropFirst_21 flX4_11 rfl hF (fun x5 hF => ?_)
    refine v_iconst (pc := 24) (v := (0 : Int32)) dX4_dropFirst_24 rfl ?_
    refine s_aald23 (pc := 25) dX4_dropFirst_25 hF (fun x6 hF => ?_)
    refine v_astore_n (pc := 26) (i := 1) [some (sr (some a0)), some (sr x6), none] dX4_dropFirst_26 rfl (by decide) rfl rfl ?_
    refine v_iconst (pc := 27) (v := (0 : Int32)) dX4_dropFirst_27 rfl ?_
    refine v_istore_n (pc := 28) (i := 2) [some (sr (some a0)), some (sr x6), some (si (0 : Int32))] dX4_dropFirst_28 rfl (by decide) rfl rfl ?_
    refine mg (X := fun q7 => gV G mX4_dropFirst 0 Q 60 [some (sr (some a0)), some (sr x6), none] [] (0) (0) q7) hF (fun _ hj14 hF => v_lle [some (sr (some a0)), some (sr x6), some (si (0 : Int32))] ⟨rfl, rfl, rfl, trivial⟩ (lX4_dropFirst_29 a0 x6 hj14 FU ((0 : Int32), h) hF)) (fun q7 hF => ?_)
    refine v_aload_n (pc := 60) (i := 0) dX4_dropFirst_60 rfl rfl ?_
    refine s_getR (pc := 61) dX4_dropFirst_61 flX4_11 rfl hF (fun x8 hF => ?_)
    refine v_aload_n (pc := 64) (i := 0) dX4_dropFirst_64 rfl rfl ?_
    refine s_getR (pc := 65) dX4_dropFirst_65 flX4_11 rfl hF (fun x9 hF => ?_)
    refine s_alen (pc := 68) dX4_dropFirst_68 hF (fun x10 hF => ?_)
    refine v_iconst (pc := 69) (v := (1 : Int32)) dX4_dropFirst_69 rfl ?_
    refine v_isub (pc := 70) dX4_dropFirst_70 ?_
    refine v_aload_n (pc := 71) (i := 1) dX4_dropFirst_71 rfl rfl ?_
    refine s_aast23 (pc := 72) dX4_dropFirst_72 hF (fun h11 hF => ?_)
    refine v_aload_n (pc := 73) (i := 0) dX4_dropFirst_73 rfl rfl ?_
    refine v_dup (pc := 74) dX4_dropFirst_74 rfl ?_
    refine s_getI (pc := 75) dX4_dropFirst_75 flX4_20 rfl hF (fun x12 hF => ?_)
    refine v_iconst (pc := 78) (v := (1 : Int32)) dX4_dropFirst_78 rfl ?_
    refine v_isub (pc := 79) dX4_dropFirst_79 ?_
    refine s_putI (pc := 80) dX4_dropFirst_80 flX4_20 (Or.inl rfl) rfl hF (fun h13 hF => ?_)
    exact v_ret (pc := 83) dX4_dropFirst_83 rfl (okr hF fun q => q)
  replace hF := (okB_if hF).2 hc
  exact v_ret (pc := 19) dX4_dropFirst_19 rfl (okr hF fun q => q)
/-! BrailleDesk$Queue.moveFirst -/
theorem tX4_moveFirst {G : gG} (a0 : Nat) (a1 : (Option Nat)) (h : hp) (Q : hQ) (hF : okB (fX4_moveFirst a0 a1 h) (pH gU Q)) : gS G mX4_moveFirst 1 0 0 [sr (some a0), sr a1] h Q := by
  delta fX4_moveFirst at hF
  refine gS_at [some (sr (some a0)), some (sr a1), none] pl_X4 rfl (Nat.le_of_ble_eq_true rfl) rfl ?_
  refine v_aload_n (pc := 0) (i := 0) dX4_moveFirst_0 rfl rfl ?_
  refine s_getR (pc := 1) dX4_moveFirst_1 flX4_11 rfl hF (fun x1 hF => ?_)
  refine s_alen (pc := 4) dX4_moveFirst_4 hF (fun x2 hF => ?_)
  refine mg (X := fun q3 => gV G mX4_moveFirst 1 Q 18 [some (sr (some a0)), some (sr a1), none] [sr q3] (0) (0) h) hF (fun _ hj4 hF => ?_) (fun q3 hF => ?_)
  · refine v_if_le (pc := 5) 17 dX4_moveFirst_5 rfl (fun hc => ?_) (fun hc => ?_)
    · replace hF := (okB_if hF).1 hc
      refine v_null (pc := 17) dX4_moveFirst_17 ?_
      exact v_lle [some (sr (some a0)), some (sr a1), none] ⟨rfl, rfl, trivial⟩ (hj4 (none : Option Nat) (okB_some hF))
    replace hF := (okB_if hF).2 hc
    refine v_aload_n (pc := 8) (i := 0) dX4_moveFirst_8 rfl rfl ?_
    refine s_getR (pc := 9) dX4_moveFirst_9 flX4_11 rfl hF (fun x5 hF => ?_)
    refine v_iconst (pc := 12) (v := (0 : Int32)) dX4_moveFirst_12 rfl ?_
    refine s_aald23 (pc := 13) dX4_moveFirst_13 hF (fun x6 hF => ?_)
    refine v_goto (pc := 14) 18 dX4_moveFirst_14 rfl ?_
    exact v_lle [some (sr (some a0)), some (sr a1), none] ⟨rfl, rfl, trivial⟩ (hj4 x6 (okB_some hF))
  refine v_astore_n (pc := 18) (i := 2) [some (sr (some a0)), some (sr a1), some (sr q3)] dX4_moveFirst_18 rfl (by decide) rfl rfl ?_
  refine v_aload_n (pc := 19) (i := 2) dX4_moveFirst_19 rfl rfl ?_
  refine mg (X := fun q7 => gV G mX4_moveFirst 1 Q 28 [some (sr (some a0)), none, none] [] (0) (0) q7) hF (fun _ hj8 hF => ?_) (fun q7 hF => ?_)
  · refine s_ifnull (pc := 20) 28 dX4_moveFirst_20 rfl hF (fun hF => ?_) (fun hF => ?_)
    · exact v_lle [some (sr (some a0)), none, none] ⟨rfl, trivial⟩ (hj8 h (okB_some hF))
    refine v_aload_n (pc := 23) (i := 1) dX4_moveFirst_23 rfl rfl ?_
    refine v_aload_n (pc := 24) (i := 2) dX4_moveFirst_24 rfl rfl ?_
    refine ch_V (pc := 25) gU (as := [sr q3]) (st := []) (ci := 0) (N := mX1_copy) (k := 0) (n := 0) (k1 := 0) (n1 := 0) dX4_moveFirst_25 lkX4_24 caX1_copy cvX1_copy rfl (by decide) rfl (fun b Q1 hq => tX1_copy b q3 h Q1 hq) ⟨by decide, by decide⟩ (Nat.le_of_ble_eq_true rfl) rfl hF (fun x9 h10 hF => ?_)
    show gV G mX4_moveFirst 1 Q 28 [some (sr (some a0)), some (sr a1), some (sr q3)] [] (0) (0) h10
    exact v_lle [some (sr (some a0)), none, none] ⟨rfl, trivial⟩ (hj8 h10 (okB_some hF))
  refine v_aload_n (pc := 28) (i := 0) dX4_moveFirst_28 rfl rfl ?_
  refine ch_V (pc := 29) gU (as := []) (st := []) (ci := 3) (N := mX4_dropFirst) (k := 0) (n := 0) (k1 := 0) (n1 := 0) dX4_moveFirst_29 lkX4_28 caX4_dropFirst cvX4_dropFirst rfl (by decide) rfl (fun b Q1 hq => tX4_dropFirst b q7 Q1 hq) ⟨by decide, by decide⟩ (Nat.le_of_ble_eq_true rfl) rfl hF (fun x11 h12 hF => ?_)
  show gV G mX4_moveFirst 1 Q 32 [some (sr (some a0)), none, none] [] (0) (0) h12
  exact v_ret (pc := 32) dX4_moveFirst_32 rfl (okr hF fun q => q)
/-! BrailleDesk$Pins.<init> -/
theorem tX3_init {G : gG} (a0 : Nat) (h : hp) (Q : hQ) (hF : okB (fX3_init a0 h) (pH gU Q)) : gS G mX3_init 2 4 204 [sr (some a0)] h Q := by
  delta fX3_init at hF
  refine gS_at [some (sr (some a0))] pl_X3 rfl (Nat.le_of_ble_eq_true rfl) rfl ?_
  refine v_aload_n (pc := 0) (i := 0) dX3_init_0 rfl rfl ?_
  refine v_objI (pc := 1) dX3_init_1 lkX3_3 oi_c oi_d (Nat.le_of_ble_eq_true rfl) (by decide) ?_
  refine v_aload_n (pc := 4) (i := 0) dX3_init_4 rfl rfl ?_
  refine v_new (pc := 5) (ci := 0) (k := 3) (n := 202) dX3_init_5 (by decide) ccX3_9 ins_0 ini_0 ?_
  refine v_dup (pc := 8) dX3_init_8 rfl ?_
  refine v_bipush (pc := 9) (v := (64 : Int32)) dX3_init_9 rfl ?_
  refine ch_I (pc := 11) (as := [si (64 : Int32)]) (st := [sr (some (hN h)), sr (some a0)]) (N := mX1_init) (k := 2) (n := 102) (k1 := 1) (n1 := 100) dX3_init_11 lkX3_11 caX1_init ciX1_init rfl rfl rfl (fun Q1 hq => tX1_init (hN h) (64 : Int32) (wN h (1, 0)) Q1 hq) ⟨by decide, by decide⟩ (Nat.le_of_ble_eq_true rfl) rfl hF (fun x1 h2 hF => ?_)
  refine s_putR (pc := 14) dX3_init_14 flX3_14 (Or.inr ⟨rfl, rfl, rfl⟩) rfl hF (fun h3 hF => ?_)
  refine v_aload_n (pc := 17) (i := 0) dX3_init_17 rfl rfl ?_
  refine v_new (pc := 18) (ci := 0) (k := 1) (n := 100) dX3_init_18 (by decide) ccX3_9 ins_0 ini_0 ?_
  refine v_dup (pc := 21) dX3_init_21 rfl ?_
  refine v_bipush (pc := 22) (v := (64 : Int32)) dX3_init_22 rfl ?_
  refine ch_I (pc := 24) (as := [si (64 : Int32)]) (st := [sr (some (hN h3)), sr (some a0)]) (N := mX1_init) (k := 0) (n := 0) (k1 := 1) (n1 := 100) dX3_init_24 lkX3_11 caX1_init ciX1_init rfl rfl rfl (fun Q1 hq => tX1_init (hN h3) (64 : Int32) (wN h3 (1, 0)) Q1 hq) ⟨by decide, by decide⟩ (Nat.le_of_ble_eq_true rfl) rfl hF (fun x4 h5 hF => ?_)
  refine s_putR (pc := 27) dX3_init_27 flX3_20 (Or.inr ⟨rfl, rfl, rfl⟩) rfl hF (fun h6 hF => ?_)
  exact v_ret (pc := 30) dX3_init_30 rfl (okr hF fun q => q)
/-! BrailleDesk$Pins.keep -/
theorem tX3_keep {G : gG} (a0 : Nat) (a1 : (Option Nat)) (a2 : Int32) (h : hp) (Q : hQ) (hF : okB (fX3_keep a0 a1 a2 h) (pH gU Q)) : gS G mX3_keep 6 0 0 [sr (some a0), sr a1, si a2] h Q := by
  delta fX3_keep at hF
  refine gS_at [some (sr (some a0)), some (sr a1), some (si a2)] pl_X3 rfl (Nat.le_of_ble_eq_true rfl) rfl ?_
  refine v_aload_n (pc := 0) (i := 0) dX3_keep_0 rfl rfl ?_
  refine s_getR (pc := 1) dX3_keep_1 flX3_14 rfl hF (fun x1 hF => ?_)
  refine v_aload_n (pc := 4) (i := 1) dX3_keep_4 rfl rfl ?_
  refine v_iload_n (pc := 5) (i := 2) dX3_keep_5 rfl rfl ?_
  refine ch_S (pc := 6) gU (as := [sr x1, sr a1, si a2]) (st := []) (N := mX0_writeLine) (k := 0) (n := 0) (k1 := 0) (n1 := 0) dX3_keep_6 lkX3_23 caX0_writeLine csX0_writeLine rfl (fun Q1 hq => tX0_writeLine x1 a1 a2 h Q1 hq) ⟨by decide, by decide⟩ (Nat.le_of_ble_eq_true rfl) rfl hF (fun x2 h3 hF => ?_)
  show gV G mX3_keep 6 Q 9 [some (sr (some a0)), some (sr a1), some (si a2)] [] (0) (0) h3
  refine v_aload_n (pc := 9) (i := 0) dX3_keep_9 rfl rfl ?_
  refine s_getI (pc := 10) dX3_keep_10 flX3_29 rfl hF (fun x4 hF => ?_)
  refine v_if_le (pc := 13) 63 dX3_keep_13 rfl (fun hc => ?_) (fun hc => ?_)
  · replace hF := (okB_if hF).1 hc
    exact v_ret (pc := 63) dX3_keep_63 rfl (okr hF fun q => q)
  replace hF := (okB_if hF).2 hc
  refine v_aload_n (pc := 16) (i := 0) dX3_keep_16 rfl rfl ?_
  refine s_getI (pc := 17) dX3_keep_17 flX3_29 rfl hF (fun x5 hF => ?_)
  refine v_aload_n (pc := 20) (i := 0) dX3_keep_20 rfl rfl ?_
  refine s_getR (pc := 21) dX3_keep_21 flX3_14 rfl hF (fun x6 hF => ?_)
  refine cp_V (pc := 24) gI (as := []) (st := [si x5]) (ci := 0) (N := mX1_size) (k := 0) (n := 0) (k1 := 0) (n1 := 0) dX3_keep_24 lkX3_33 caX1_size cvX1_size rfl (by decide) rfl (fun b Q1 hq => tX1_size b h3 Q1 hq) ⟨by decide, by decide⟩ (Nat.le_of_ble_eq_true rfl) rfl hF (fun x7 hF => ?_)
  show gV G mX3_keep 6 Q 27 [some (sr (some a0)), some (sr a1), some (si a2)] [si x7, si x5] (0) (0) h3
  refine v_icmp_lt (pc := 27) 63 dX3_keep_27 rfl (fun hc => ?_) (fun hc => ?_)
  · replace hF := (okB_if hF).1 hc
    exact v_ret (pc := 63) dX3_keep_63 rfl (okr hF fun q => q)
  replace hF := (okB_if hF).2 hc
  refine v_aload_n (pc := 30) (i := 0) dX3_keep_30 rfl rfl ?_
  refine v_aload_n (pc := 31) (i := 0) dX3_keep_31 rfl rfl ?_
  refine s_getR (pc := 32) dX3_keep_32 flX3_14 rfl hF (fun x8 hF => ?_)
  refine cp_V (pc := 35) gI (as := []) (st := [sr (some a0)]) (ci := 0) (N := mX1_size) (k := 0) (n := 0) (k1 := 0) (n1 := 0) dX3_keep_35 lkX3_33 caX1_size cvX1_size rfl (by decide) rfl (fun b Q1 hq => tX1_size b h3 Q1 hq) ⟨by decide, by decide⟩ (Nat.le_of_ble_eq_true rfl) rfl hF (fun x9 hF => ?_)
  show gV G mX3_keep 6 Q 38 [some (sr (some a0)), some (sr a1), some (si a2)] [si x9, sr (some a0)] (0) (0) h3
  refine v_if_le (pc := 38) 59 dX3_keep_38 rfl (fun hc => ?_) (fun hc => ?_)
  · replace hF := (okB_if hF).1 hc
    refine v_iconst (pc := 59) (v := (0 : Int32)) dX3_keep_59 rfl ?_
    refine s_putI (pc := 60) dX3_keep_60 flX3_29 (Or.inl rfl) rfl hF (fun h10 hF => ?_)
    exact v_ret (pc := 63) dX3_keep_63 rfl (okr hF fun q => q)
  replace hF := (okB_if hF).2 hc
  refine v_aload_n (pc := 41) (i := 0) dX3_keep_41 rfl rfl ?_
  refine s_getR (pc := 42) dX3_keep_42 flX3_14 rfl hF (fun x11 hF => ?_)
  refine cp_V (pc := 45) gI (as := []) (st := [sr (some a0)]) (ci := 0) (N := mX1_size) (k := 0) (n := 0) (k1 := 0) (n1 := 0) dX3_keep_45 lkX3_33 caX1_size cvX1_size rfl (by decide) rfl (fun b Q1 hq => tX1_size b h3 Q1 hq) ⟨by decide, by decide⟩ (Nat.le_of_ble_eq_true rfl) rfl hF (fun x12 hF => ?_)
  show gV G mX3_keep 6 Q 48 [some (sr (some a0)), some (sr a1), some (si a2)] [si x12, sr (some a0)] (0) (0) h3
  refine v_iconst (pc := 48) (v := (1 : Int32)) dX3_keep_48 rfl ?_
  refine v_isub (pc := 49) dX3_keep_49 ?_
  refine v_bipush (pc := 50) (v := (10 : Int32)) dX3_keep_50 rfl ?_
  refine s_idiv (pc := 52) dX3_keep_52 hF (fun hF => ?_)
  refine v_bipush (pc := 53) (v := (10 : Int32)) dX3_keep_53 rfl ?_
  refine v_imul (pc := 55) dX3_keep_55 ?_
  refine v_goto (pc := 56) 60 dX3_keep_56 rfl ?_
  refine s_putI (pc := 60) dX3_keep_60 flX3_29 (Or.inl rfl) rfl hF (fun h13 hF => ?_)
  exact v_ret (pc := 63) dX3_keep_63 rfl (okr hF fun q => q)
/-! BrailleDesk$Pins.goLeft -/
theorem tX3_goLeft {G : gG} (a0 : Nat) (h : hp) (Q : hQ) (hF : okB (fX3_goLeft a0 h) (pH gU Q)) : gS G mX3_goLeft 0 0 0 [sr (some a0)] h Q := by
  delta fX3_goLeft at hF
  refine gS_at [some (sr (some a0))] pl_X3 rfl (Nat.le_of_ble_eq_true rfl) rfl ?_
  refine v_aload_n (pc := 0) (i := 0) dX3_goLeft_0 rfl rfl ?_
  refine s_getI (pc := 1) dX3_goLeft_1 flX3_29 rfl hF (fun x1 hF => ?_)
  refine v_if_le (pc := 4) 18 dX3_goLeft_4 rfl (fun hc => ?_) (fun hc => ?_)
  · replace hF := (okB_if hF).1 hc
    exact v_ret (pc := 18) dX3_goLeft_18 rfl (okr hF fun q => q)
  replace hF := (okB_if hF).2 hc
  refine v_aload_n (pc := 7) (i := 0) dX3_goLeft_7 rfl rfl ?_
  refine v_dup (pc := 8) dX3_goLeft_8 rfl ?_
  refine s_getI (pc := 9) dX3_goLeft_9 flX3_29 rfl hF (fun x2 hF => ?_)
  refine v_bipush (pc := 12) (v := (10 : Int32)) dX3_goLeft_12 rfl ?_
  refine v_isub (pc := 14) dX3_goLeft_14 ?_
  refine s_putI (pc := 15) dX3_goLeft_15 flX3_29 (Or.inl rfl) rfl hF (fun h3 hF => ?_)
  exact v_ret (pc := 18) dX3_goLeft_18 rfl (okr hF fun q => q)
/-! BrailleDesk$Pins.goRight -/
theorem tX3_goRight {G : gG} (a0 : Nat) (h : hp) (Q : hQ) (hF : okB (fX3_goRight a0 h) (pH gU Q)) : gS G mX3_goRight 1 0 0 [sr (some a0)] h Q := by
  delta fX3_goRight at hF
  refine gS_at [some (sr (some a0))] pl_X3 rfl (Nat.le_of_ble_eq_true rfl) rfl ?_
  refine v_aload_n (pc := 0) (i := 0) dX3_goRight_0 rfl rfl ?_
  refine s_getI (pc := 1) dX3_goRight_1 flX3_29 rfl hF (fun x1 hF => ?_)
  refine v_bipush (pc := 4) (v := (10 : Int32)) dX3_goRight_4 rfl ?_
  refine v_iadd (pc := 6) dX3_goRight_6 ?_
  refine v_aload_n (pc := 7) (i := 0) dX3_goRight_7 rfl rfl ?_
  refine s_getR (pc := 8) dX3_goRight_8 flX3_14 rfl hF (fun x2 hF => ?_)
  refine cp_V (pc := 11) gI (as := []) (st := [si (x1 + (10 : Int32))]) (ci := 0) (N := mX1_size) (k := 0) (n := 0) (k1 := 0) (n1 := 0) dX3_goRight_11 lkX3_33 caX1_size cvX1_size rfl (by decide) rfl (fun b Q1 hq => tX1_size b h Q1 hq) ⟨by decide, by decide⟩ (Nat.le_of_ble_eq_true rfl) rfl hF (fun x3 hF => ?_)
  show gV G mX3_goRight 1 Q 14 [some (sr (some a0))] [si x3, si (x1 + (10 : Int32))] (0) (0) h
  refine v_icmp_ge (pc := 14) 28 dX3_goRight_14 rfl (fun hc => ?_) (fun hc => ?_)
  · replace hF := (okB_if hF).1 hc
    exact v_ret (pc := 28) dX3_goRight_28 rfl (okr hF fun q => q)
  replace hF := (okB_if hF).2 hc
  refine v_aload_n (pc := 17) (i := 0) dX3_goRight_17 rfl rfl ?_
  refine v_dup (pc := 18) dX3_goRight_18 rfl ?_
  refine s_getI (pc := 19) dX3_goRight_19 flX3_29 rfl hF (fun x4 hF => ?_)
  refine v_bipush (pc := 22) (v := (10 : Int32)) dX3_goRight_22 rfl ?_
  refine v_iadd (pc := 24) dX3_goRight_24 ?_
  refine s_putI (pc := 25) dX3_goRight_25 flX3_29 (Or.inl rfl) rfl hF (fun h5 hF => ?_)
  exact v_ret (pc := 28) dX3_goRight_28 rfl (okr hF fun q => q)
/-! BrailleDesk$Pins.cellOf -/
theorem tX3_cellOf {G : gG} (a0 : Nat) (a1 : (Option Nat)) (a2 : Int32) (h : hp) (Q : hQ) (hF : okB (fX3_cellOf a0 a1 a2 h) (pP gI Q h)) : gS G mX3_cellOf 1 0 0 [sr (some a0), sr a1, si a2] h Q := by
  delta fX3_cellOf at hF
  refine gS_at [some (sr (some a0)), some (sr a1), some (si a2), none] pl_X3 rfl (Nat.le_of_ble_eq_true rfl) rfl ?_
  refine v_aload_n (pc := 0) (i := 0) dX3_cellOf_0 rfl rfl ?_
  refine s_getI (pc := 1) dX3_cellOf_1 flX3_29 rfl hF (fun x1 hF => ?_)
  refine v_iload_n (pc := 4) (i := 2) dX3_cellOf_4 rfl rfl ?_
  refine v_iadd (pc := 5) dX3_cellOf_5 ?_
  refine v_istore_n (pc := 6) (i := 3) [some (sr (some a0)), some (sr a1), some (si a2), some (si (x1 + a2))] dX3_cellOf_6 rfl (by decide) rfl rfl ?_
  refine v_iload_n (pc := 7) (i := 3) dX3_cellOf_7 rfl rfl ?_
  refine v_aload_n (pc := 8) (i := 1) dX3_cellOf_8 rfl rfl ?_
  refine cp_V (pc := 9) gI (as := []) (st := [si (x1 + a2)]) (ci := 0) (N := mX1_size) (k := 0) (n := 0) (k1 := 0) (n1 := 0) dX3_cellOf_9 lkX3_33 caX1_size cvX1_size rfl (by decide) rfl (fun b Q1 hq => tX1_size b h Q1 hq) ⟨by decide, by decide⟩ (Nat.le_of_ble_eq_true rfl) rfl hF (fun x2 hF => ?_)
  show gV G mX3_cellOf 1 Q 12 [some (sr (some a0)), some (sr a1), some (si a2), some (si (x1 + a2))] [si x2, si (x1 + a2)] (0) (0) h
  refine v_icmp_ge (pc := 12) 23 dX3_cellOf_12 rfl (fun hc => ?_) (fun hc => ?_)
  · replace hF := (okB_if hF).1 hc
    refine v_iconst (pc := 23) (v := (0 : Int32)) dX3_cellOf_23 rfl ?_
    exact v_iret (pc := 24) dX3_cellOf_24 rfl rfl (okr hF fun q => q)
  replace hF := (okB_if hF).2 hc
  refine v_aload_n (pc := 15) (i := 1) dX3_cellOf_15 rfl rfl ?_
  refine v_iload_n (pc := 16) (i := 3) dX3_cellOf_16 rfl rfl ?_
  refine cp_V (pc := 17) gI (as := [si (x1 + a2)]) (st := []) (ci := 0) (N := mX1_at) (k := 0) (n := 0) (k1 := 0) (n1 := 0) dX3_cellOf_17 lkX3_41 caX1_at cvX1_at rfl (by decide) rfl (fun b Q1 hq => tX1_at b (x1 + a2) h Q1 hq) ⟨by decide, by decide⟩ (Nat.le_of_ble_eq_true rfl) rfl hF (fun x3 hF => ?_)
  show gV G mX3_cellOf 1 Q 20 [some (sr (some a0)), some (sr a1), some (si a2), some (si (x1 + a2))] [si x3] (0) (0) h
  refine v_goto (pc := 20) 24 dX3_cellOf_20 rfl ?_
  exact v_iret (pc := 24) dX3_cellOf_24 rfl rfl (okr hF fun q => q)
/-! BrailleDesk$Pins.cell -/
theorem tX3_cell {G : gG} (a0 : Nat) (a1 : Int32) (h : hp) (Q : hQ) (hF : okB (fX3_cell a0 a1 h) (pP gI Q h)) : gS G mX3_cell 2 0 0 [sr (some a0), si a1] h Q := by
  delta fX3_cell at hF
  refine gS_at [some (sr (some a0)), some (si a1)] pl_X3 rfl (Nat.le_of_ble_eq_true rfl) rfl ?_
  refine v_aload_n (pc := 0) (i := 0) dX3_cell_0 rfl rfl ?_
  refine v_aload_n (pc := 1) (i := 0) dX3_cell_1 rfl rfl ?_
  refine s_getR (pc := 2) dX3_cell_2 flX3_14 rfl hF (fun x1 hF => ?_)
  refine v_iload_n (pc := 5) (i := 1) dX3_cell_5 rfl rfl ?_
  refine cp_V (pc := 6) gI (as := [sr x1, si a1]) (st := []) (ci := 2) (N := mX3_cellOf) (k := 0) (n := 0) (k1 := 0) (n1 := 0) dX3_cell_6 lkX3_37 caX3_cellOf cvX3_cellOf rfl (by decide) rfl (fun b Q1 hq => tX3_cellOf b x1 a1 h Q1 hq) ⟨by decide, by decide⟩ (Nat.le_of_ble_eq_true rfl) rfl hF (fun x2 hF => ?_)
  show gV G mX3_cell 2 Q 9 [some (sr (some a0)), some (si a1)] [si x2] (0) (0) h
  exact v_iret (pc := 9) dX3_cell_9 rfl rfl (okr hF fun q => q)
/-! BrailleDesk$Pins.cellAnew -/
theorem tX3_cellAnew {G : gG} (a0 : Nat) (a1 : (Option Nat)) (a2 : Int32) (a3 : Int32) (h : hp) (Q : hQ) (hF : okB (fX3_cellAnew a0 a1 a2 a3 h) (pH gI Q)) : gS G mX3_cellAnew 6 0 0 [sr (some a0), sr a1, si a2, si a3] h Q := by
  delta fX3_cellAnew at hF
  refine gS_at [some (sr (some a0)), some (sr a1), some (si a2), some (si a3)] pl_X3 rfl (Nat.le_of_ble_eq_true rfl) rfl ?_
  refine v_aload_n (pc := 0) (i := 0) dX3_cellAnew_0 rfl rfl ?_
  refine s_getR (pc := 1) dX3_cellAnew_1 flX3_20 rfl hF (fun x1 hF => ?_)
  refine v_aload_n (pc := 4) (i := 1) dX3_cellAnew_4 rfl rfl ?_
  refine v_iload_n (pc := 5) (i := 2) dX3_cellAnew_5 rfl rfl ?_
  refine ch_S (pc := 6) gU (as := [sr x1, sr a1, si a2]) (st := []) (N := mX0_writeLine) (k := 0) (n := 0) (k1 := 0) (n1 := 0) dX3_cellAnew_6 lkX3_23 caX0_writeLine csX0_writeLine rfl (fun Q1 hq => tX0_writeLine x1 a1 a2 h Q1 hq) ⟨by decide, by decide⟩ (Nat.le_of_ble_eq_true rfl) rfl hF (fun x2 h3 hF => ?_)
  show gV G mX3_cellAnew 6 Q 9 [some (sr (some a0)), some (sr a1), some (si a2), some (si a3)] [] (0) (0) h3
  refine v_aload_n (pc := 9) (i := 0) dX3_cellAnew_9 rfl rfl ?_
  refine v_aload_n (pc := 10) (i := 0) dX3_cellAnew_10 rfl rfl ?_
  refine s_getR (pc := 11) dX3_cellAnew_11 flX3_20 rfl hF (fun x4 hF => ?_)
  refine v_iload_n (pc := 14) (i := 3) dX3_cellAnew_14 rfl rfl ?_
  refine cp_V (pc := 15) gI (as := [sr x4, si a3]) (st := []) (ci := 2) (N := mX3_cellOf) (k := 0) (n := 0) (k1 := 0) (n1 := 0) dX3_cellAnew_15 lkX3_37 caX3_cellOf cvX3_cellOf rfl (by decide) rfl (fun b Q1 hq => tX3_cellOf b x4 a3 h3 Q1 hq) ⟨by decide, by decide⟩ (Nat.le_of_ble_eq_true rfl) rfl hF (fun x5 hF => ?_)
  show gV G mX3_cellAnew 6 Q 18 [some (sr (some a0)), some (sr a1), some (si a2), some (si a3)] [si x5] (0) (0) h3
  exact v_iret (pc := 18) dX3_cellAnew_18 rfl rfl (okr hF fun q => q)
/-! BrailleDesk$Voice.<init> -/
theorem tX9_init {G : gG} (a0 : Nat) (h : hp) (Q : hQ) (hF : okB (fX9_init a0 h) (pH gU Q)) : gS G mX9_init 3 97 4996 [sr (some a0)] h Q := by
  delta fX9_init at hF
  refine gS_at [some (sr (some a0))] pl_X9 rfl (Nat.le_of_ble_eq_true rfl) rfl ?_
  refine v_aload_n (pc := 0) (i := 0) dX9_init_0 rfl rfl ?_
  refine v_objI (pc := 1) dX9_init_1 lkX9_3 oi_c oi_d (Nat.le_of_ble_eq_true rfl) (by decide) ?_
  refine v_aload_n (pc := 4) (i := 0) dX9_init_4 rfl rfl ?_
  refine v_new (pc := 5) (ci := 3) (k := 96) (n := 4994) dX9_init_5 (by decide) ccX9_9 ins_3 ini_3 ?_
  refine v_dup (pc := 8) dX9_init_8 rfl ?_
  refine v_bipush (pc := 9) (v := (6 : Int32)) dX9_init_9 rfl ?_
  refine ch_I (pc := 11) (as := [si (6 : Int32)]) (st := [sr (some (hN h)), sr (some a0)]) (N := mX4_init) (k := 51) (n := 2650) (k1 := 45) (n1 := 2344) dX9_init_11 lkX9_11 caX4_init ciX4_init rfl rfl rfl (fun Q1 hq => tX4_init (hN h) (6 : Int32) (wN h (4, 0)) Q1 hq) ⟨by decide, by decide⟩ (Nat.le_of_ble_eq_true rfl) rfl hF (fun x1 h2 hF => ?_)
  refine s_putR (pc := 14) dX9_init_14 flX9_14 (Or.inr ⟨rfl, rfl, rfl⟩) rfl hF (fun h3 hF => ?_)
  refine v_aload_n (pc := 17) (i := 0) dX9_init_17 rfl rfl ?_
  refine v_new (pc := 18) (ci := 3) (k := 50) (n := 2648) dX9_init_18 (by decide) ccX9_9 ins_3 ini_3 ?_
  refine v_dup (pc := 21) dX9_init_21 rfl ?_
  refine v_bipush (pc := 22) (v := (21 : Int32)) dX9_init_22 rfl ?_
  refine ch_I (pc := 24) (as := [si (21 : Int32)]) (st := [sr (some (hN h3)), sr (some a0)]) (N := mX4_init) (k := 5) (n := 304) (k1 := 45) (n1 := 2344) dX9_init_24 lkX9_11 caX4_init ciX4_init rfl rfl rfl (fun Q1 hq => tX4_init (hN h3) (21 : Int32) (wN h3 (4, 0)) Q1 hq) ⟨by decide, by decide⟩ (Nat.le_of_ble_eq_true rfl) rfl hF (fun x4 h5 hF => ?_)
  refine s_putR (pc := 27) dX9_init_27 flX9_20 (Or.inr ⟨rfl, rfl, rfl⟩) rfl hF (fun h6 hF => ?_)
  refine v_aload_n (pc := 30) (i := 0) dX9_init_30 rfl rfl ?_
  refine v_new (pc := 31) (ci := 0) (k := 4) (n := 302) dX9_init_31 (by decide) ccX9_23 ins_0 ini_0 ?_
  refine v_dup (pc := 34) dX9_init_34 rfl ?_
  refine v_bipush (pc := 35) (v := (80 : Int32)) dX9_init_35 rfl ?_
  refine ch_I (pc := 37) (as := [si (80 : Int32)]) (st := [sr (some (hN h6)), sr (some a0)]) (N := mX1_init) (k := 3) (n := 202) (k1 := 1) (n1 := 100) dX9_init_37 lkX9_25 caX1_init ciX1_init rfl rfl rfl (fun Q1 hq => tX1_init (hN h6) (80 : Int32) (wN h6 (1, 0)) Q1 hq) ⟨by decide, by decide⟩ (Nat.le_of_ble_eq_true rfl) rfl hF (fun x7 h8 hF => ?_)
  refine s_putR (pc := 40) dX9_init_40 flX9_26 (Or.inr ⟨rfl, rfl, rfl⟩) rfl hF (fun h9 hF => ?_)
  refine v_aload_n (pc := 43) (i := 0) dX9_init_43 rfl rfl ?_
  refine v_new (pc := 44) (ci := 0) (k := 2) (n := 200) dX9_init_44 (by decide) ccX9_23 ins_0 ini_0 ?_
  refine v_dup (pc := 47) dX9_init_47 rfl ?_
  refine v_bipush (pc := 48) (v := (80 : Int32)) dX9_init_48 rfl ?_
  refine ch_I (pc := 50) (as := [si (80 : Int32)]) (st := [sr (some (hN h9)), sr (some a0)]) (N := mX1_init) (k := 1) (n := 100) (k1 := 1) (n1 := 100) dX9_init_50 lkX9_25 caX1_init ciX1_init rfl rfl rfl (fun Q1 hq => tX1_init (hN h9) (80 : Int32) (wN h9 (1, 0)) Q1 hq) ⟨by decide, by decide⟩ (Nat.le_of_ble_eq_true rfl) rfl hF (fun x10 h11 hF => ?_)
  refine s_putR (pc := 53) dX9_init_53 flX9_30 (Or.inr ⟨rfl, rfl, rfl⟩) rfl hF (fun h12 hF => ?_)
  refine v_aload_n (pc := 56) (i := 0) dX9_init_56 rfl rfl ?_
  refine v_iconst (pc := 57) (v := (-1 : Int32)) dX9_init_57 rfl ?_
  refine s_putI (pc := 58) dX9_init_58 flX9_33 (Or.inl rfl) rfl hF (fun h13 hF => ?_)
  refine v_aload_n (pc := 61) (i := 0) dX9_init_61 rfl rfl ?_
  refine v_bipush (pc := 62) (v := (100 : Int32)) dX9_init_62 rfl ?_
  refine v_newI (pc := 64) (k := 0) (n := 0) (len := 100) dX9_init_64 rfl (by decide) ?_
  refine s_putR (pc := 66) dX9_init_66 flX9_37 (Or.inr ⟨rfl, rfl, rfl⟩) rfl hF (fun h14 hF => ?_)
  exact v_ret (pc := 69) dX9_init_69 rfl (okr hF fun q => q)
/-! BrailleDesk$Voice.countWaiting -/
theorem tX9_countWaiting {G : gG} (a0 : Nat) (a1 : Int32) (h : hp) (Q : hQ) (hF : okB (fX9_countWaiting a0 a1 h) (pP gI Q h)) : gS G mX9_countWaiting 1 0 0 [sr (some a0), si a1] h Q := by
  delta fX9_countWaiting at hF
  refine gS_at [some (sr (some a0)), some (si a1)] pl_X9 rfl (Nat.le_of_ble_eq_true rfl) rfl ?_
  refine v_iload_n (pc := 0) (i := 1) dX9_countWaiting_0 rfl rfl ?_
  by_cases hc0 : a1 = (0 : Int32)
  · replace hF := (okB_if hF).1 hc0
    refine v_lookup (pc := 1) 28 dX9_countWaiting_1 (by decide) (by rw [hc0]; first | done | decide) rfl ?_
    refine v_aload_n (pc := 28) (i := 0) dX9_countWaiting_28 rfl rfl ?_
    refine s_getR (pc := 29) dX9_countWaiting_29 flX9_14 rfl hF (fun x1 hF => ?_)
    refine cp_V (pc := 32) gI (as := []) (st := []) (ci := 3) (N := mX4_size) (k := 0) (n := 0) (k1 := 0) (n1 := 0) dX9_countWaiting_32 lkX9_41 caX4_size cvX4_size rfl (by decide) rfl (fun b Q1 hq => tX4_size b h Q1 hq) ⟨by decide, by decide⟩ (Nat.le_of_ble_eq_true rfl) rfl hF (fun x2 hF => ?_)
    show gV G mX9_countWaiting 1 Q 35 [some (sr (some a0)), some (si a1)] [si x2] (0) (0) h
    exact v_iret (pc := 35) dX9_countWaiting_35 rfl rfl (okr hF fun q => q)
  replace hF := (okB_if hF).2 hc0
  by_cases hc1 : a1 = (1 : Int32)
  · replace hF := (okB_if hF).1 hc1
    refine v_lookup (pc := 1) 36 dX9_countWaiting_1 (by decide) (by rw [hc1]; first | done | decide) rfl ?_
    refine v_aload_n (pc := 36) (i := 0) dX9_countWaiting_36 rfl rfl ?_
    refine s_getI (pc := 37) dX9_countWaiting_37 flX9_45 rfl hF (fun x3 hF => ?_)
    refine v_if_eq (pc := 40) 47 dX9_countWaiting_40 rfl (fun hc => ?_) (fun hc => ?_)
    · replace hF := (okB_if hF).1 hc
      refine v_iconst (pc := 47) (v := (0 : Int32)) dX9_countWaiting_47 rfl ?_
      exact v_iret (pc := 48) dX9_countWaiting_48 rfl rfl (okr hF fun q => q)
    replace hF := (okB_if hF).2 hc
    refine v_iconst (pc := 43) (v := (1 : Int32)) dX9_countWaiting_43 rfl ?_
    refine v_goto (pc := 44) 48 dX9_countWaiting_44 rfl ?_
    exact v_iret (pc := 48) dX9_countWaiting_48 rfl rfl (okr hF fun q => q)
  replace hF := (okB_if hF).2 hc1
  refine v_lookup (pc := 1) 49 dX9_countWaiting_1 (by decide) (look_d (fun p hp => ?_)) rfl ?_
  · rcases List.mem_cons.mp hp with rfl | hp
    · exact ne_toInt (k := (0 : Int32)) (by decide) hc0
    rcases List.mem_cons.mp hp with rfl | hp
    · exact ne_toInt (k := (1 : Int32)) (by decide) hc1
    cases hp
  refine v_aload_n (pc := 49) (i := 0) dX9_countWaiting_49 rfl rfl ?_
  refine s_getR (pc := 50) dX9_countWaiting_50 flX9_20 rfl hF (fun x4 hF => ?_)
  refine cp_V (pc := 53) gI (as := []) (st := []) (ci := 3) (N := mX4_size) (k := 0) (n := 0) (k1 := 0) (n1 := 0) dX9_countWaiting_53 lkX9_41 caX4_size cvX4_size rfl (by decide) rfl (fun b Q1 hq => tX4_size b h Q1 hq) ⟨by decide, by decide⟩ (Nat.le_of_ble_eq_true rfl) rfl hF (fun x5 hF => ?_)
  show gV G mX9_countWaiting 1 Q 56 [some (sr (some a0)), some (si a1)] [si x5] (0) (0) h
  exact v_iret (pc := 56) dX9_countWaiting_56 rfl rfl (okr hF fun q => q)
/-! BrailleDesk$Voice.comeNews -/
theorem tX9_comeNews {G : gG} (a0 : Nat) (a1 : (Option Nat)) (h : hp) (Q : hQ) (hF : okB (fX9_comeNews a0 a1 h) (pH gU Q)) : gS G mX9_comeNews 2 0 0 [sr (some a0), sr a1] h Q := by
  delta fX9_comeNews at hF
  refine gS_at [some (sr (some a0)), some (sr a1)] pl_X9 rfl (Nat.le_of_ble_eq_true rfl) rfl ?_
  refine v_aload_n (pc := 0) (i := 1) dX9_comeNews_0 rfl rfl ?_
  refine cp_V (pc := 1) gI (as := []) (st := []) (ci := 0) (N := mX1_size) (k := 0) (n := 0) (k1 := 0) (n1 := 0) dX9_comeNews_1 lkX9_49 caX1_size cvX1_size rfl (by decide) rfl (fun b Q1 hq => tX1_size b h Q1 hq) ⟨by decide, by decide⟩ (Nat.le_of_ble_eq_true rfl) rfl hF (fun x1 hF => ?_)
  show gV G mX9_comeNews 2 Q 4 [some (sr (some a0)), some (sr a1)] [si x1] (0) (0) h
  refine v_if_ne (pc := 4) 8 dX9_comeNews_4 rfl (fun hc => ?_) (fun hc => ?_)
  · replace hF := (okB_if hF).2 hc
    refine v_aload_n (pc := 8) (i := 0) dX9_comeNews_8 rfl rfl ?_
    refine s_getR (pc := 9) dX9_comeNews_9 flX9_14 rfl hF (fun x2 hF => ?_)
    refine v_aload_n (pc := 12) (i := 1) dX9_comeNews_12 rfl rfl ?_
    refine ch_V (pc := 13) gU (as := [sr a1]) (st := []) (ci := 3) (N := mX4_put) (k := 0) (n := 0) (k1 := 0) (n1 := 0) dX9_comeNews_13 lkX9_53 caX4_put cvX4_put rfl (by decide) rfl (fun b Q1 hq => tX4_put b a1 h Q1 hq) ⟨by decide, by decide⟩ (Nat.le_of_ble_eq_true rfl) rfl hF (fun x3 h4 hF => ?_)
    show gV G mX9_comeNews 2 Q 16 [some (sr (some a0)), some (sr a1)] [] (0) (0) h4
    refine v_aload_n (pc := 16) (i := 0) dX9_comeNews_16 rfl rfl ?_
    refine s_getR (pc := 17) dX9_comeNews_17 flX9_14 rfl hF (fun x5 hF => ?_)
    refine cp_V (pc := 20) gI (as := []) (st := []) (ci := 3) (N := mX4_size) (k := 0) (n := 0) (k1 := 0) (n1 := 0) dX9_comeNews_20 lkX9_41 caX4_size cvX4_size rfl (by decide) rfl (fun b Q1 hq => tX4_size b h4 Q1 hq) ⟨by decide, by decide⟩ (Nat.le_of_ble_eq_true rfl) rfl hF (fun x6 hF => ?_)
    show gV G mX9_comeNews 2 Q 23 [some (sr (some a0)), some (sr a1)] [si x6] (0) (0) h4
    refine v_bipush (pc := 23) (v := (6 : Int32)) dX9_comeNews_23 rfl ?_
    refine v_icmp_lt (pc := 25) 45 dX9_comeNews_25 rfl (fun hc => ?_) (fun hc => ?_)
    · replace hF := (okB_if hF).1 hc
      exact v_ret (pc := 45) dX9_comeNews_45 rfl (okr hF fun q => q)
    replace hF := (okB_if hF).2 hc
    refine v_aload_n (pc := 28) (i := 0) dX9_comeNews_28 rfl rfl ?_
    refine s_getR (pc := 29) dX9_comeNews_29 flX9_14 rfl hF (fun x7 hF => ?_)
    refine ch_V (pc := 32) gU (as := []) (st := []) (ci := 3) (N := mX4_dropFirst) (k := 0) (n := 0) (k1 := 0) (n1 := 0) dX9_comeNews_32 lkX9_57 caX4_dropFirst cvX4_dropFirst rfl (by decide) rfl (fun b Q1 hq => tX4_dropFirst b h4 Q1 hq) ⟨by decide, by decide⟩ (Nat.le_of_ble_eq_true rfl) rfl hF (fun x8 h9 hF => ?_)
    show gV G mX9_comeNews 2 Q 35 [some (sr (some a0)), some (sr a1)] [] (0) (0) h9
    refine v_aload_n (pc := 35) (i := 0) dX9_comeNews_35 rfl rfl ?_
    refine v_dup (pc := 36) dX9_comeNews_36 rfl ?_
    refine s_getI (pc := 37) dX9_comeNews_37 flX9_60 rfl hF (fun x10 hF => ?_)
    refine v_iconst (pc := 40) (v := (1 : Int32)) dX9_comeNews_40 rfl ?_
    refine v_iadd (pc := 41) dX9_comeNews_41 ?_
    refine s_putI (pc := 42) dX9_comeNews_42 flX9_60 (Or.inl rfl) rfl hF (fun h11 hF => ?_)
    exact v_ret (pc := 45) dX9_comeNews_45 rfl (okr hF fun q => q)
  replace hF := (okB_if hF).1 hc
  exact v_ret (pc := 7) dX9_comeNews_7 rfl (okr hF fun q => q)
/-! BrailleDesk$Voice.dropAnswerThatWaits -/
theorem tX9_dropAnswerThatWaits {G : gG} (a0 : Nat) (h : hp) (Q : hQ) (hF : okB (fX9_dropAnswerThatWaits a0 h) (pH gU Q)) : gS G mX9_dropAnswerThatWaits 0 0 0 [sr (some a0)] h Q := by
  delta fX9_dropAnswerThatWaits at hF
  refine gS_at [some (sr (some a0))] pl_X9 rfl (Nat.le_of_ble_eq_true rfl) rfl ?_
  refine v_aload_n (pc := 0) (i := 0) dX9_dropAnswerThatWaits_0 rfl rfl ?_
  refine s_getI (pc := 1) dX9_dropAnswerThatWaits_1 flX9_45 rfl hF (fun x1 hF => ?_)
  refine v_if_eq (pc := 4) 22 dX9_dropAnswerThatWaits_4 rfl (fun hc => ?_) (fun hc => ?_)
  · replace hF := (okB_if hF).1 hc
    exact v_ret (pc := 22) dX9_dropAnswerThatWaits_22 rfl (okr hF fun q => q)
  replace hF := (okB_if hF).2 hc
  refine v_aload_n (pc := 7) (i := 0) dX9_dropAnswerThatWaits_7 rfl rfl ?_
  refine v_iconst (pc := 8) (v := (0 : Int32)) dX9_dropAnswerThatWaits_8 rfl ?_
  refine s_putZ (pc := 9) dX9_dropAnswerThatWaits_9 flX9_45 (Or.inl rfl) rfl hF (fun h2 hF => ?_)
  refine v_aload_n (pc := 12) (i := 0) dX9_dropAnswerThatWaits_12 rfl rfl ?_
  refine v_dup (pc := 13) dX9_dropAnswerThatWaits_13 rfl ?_
  refine s_getI (pc := 14) dX9_dropAnswerThatWaits_14 flX9_60 rfl hF (fun x3 hF => ?_)
  refine v_iconst (pc := 17) (v := (1 : Int32)) dX9_dropAnswerThatWaits_17 rfl ?_
  refine v_iadd (pc := 18) dX9_dropAnswerThatWaits_18 ?_
  refine s_putI (pc := 19) dX9_dropAnswerThatWaits_19 flX9_60 (Or.inl rfl) rfl hF (fun h4 hF => ?_)
  exact v_ret (pc := 22) dX9_dropAnswerThatWaits_22 rfl (okr hF fun q => q)
/-! BrailleDesk$Voice.dropSpokenBelowAlert -/
theorem tX9_dropSpokenBelowAlert {G : gG} (a0 : Nat) (h : hp) (Q : hQ) (hF : okB (fX9_dropSpokenBelowAlert a0 h) (pH gU Q)) : gS G mX9_dropSpokenBelowAlert 0 0 0 [sr (some a0)] h Q := by
  delta fX9_dropSpokenBelowAlert at hF
  refine gS_at [some (sr (some a0))] pl_X9 rfl (Nat.le_of_ble_eq_true rfl) rfl ?_
  refine v_aload_n (pc := 0) (i := 0) dX9_dropSpokenBelowAlert_0 rfl rfl ?_
  refine s_getI (pc := 1) dX9_dropSpokenBelowAlert_1 flX9_33 rfl hF (fun x1 hF => ?_)
  refine v_if_eq (pc := 4) 15 dX9_dropSpokenBelowAlert_4 rfl (fun hc => ?_) (fun hc => ?_)
  · replace hF := (okB_if hF).1 hc
    refine v_aload_n (pc := 15) (i := 0) dX9_dropSpokenBelowAlert_15 rfl rfl ?_
    refine v_iconst (pc := 16) (v := (-1 : Int32)) dX9_dropSpokenBelowAlert_16 rfl ?_
    refine s_putI (pc := 17) dX9_dropSpokenBelowAlert_17 flX9_33 (Or.inl rfl) rfl hF (fun h2 hF => ?_)
    refine v_aload_n (pc := 20) (i := 0) dX9_dropSpokenBelowAlert_20 rfl rfl ?_
    refine v_dup (pc := 21) dX9_dropSpokenBelowAlert_21 rfl ?_
    refine s_getI (pc := 22) dX9_dropSpokenBelowAlert_22 flX9_60 rfl hF (fun x3 hF => ?_)
    refine v_iconst (pc := 25) (v := (1 : Int32)) dX9_dropSpokenBelowAlert_25 rfl ?_
    refine v_iadd (pc := 26) dX9_dropSpokenBelowAlert_26 ?_
    refine s_putI (pc := 27) dX9_dropSpokenBelowAlert_27 flX9_60 (Or.inl rfl) rfl hF (fun h4 hF => ?_)
    exact v_ret (pc := 30) dX9_dropSpokenBelowAlert_30 rfl (okr hF fun q => q)
  replace hF := (okB_if hF).2 hc
  refine v_aload_n (pc := 7) (i := 0) dX9_dropSpokenBelowAlert_7 rfl rfl ?_
  refine s_getI (pc := 8) dX9_dropSpokenBelowAlert_8 flX9_33 rfl hF (fun x5 hF => ?_)
  refine v_iconst (pc := 11) (v := (1 : Int32)) dX9_dropSpokenBelowAlert_11 rfl ?_
  refine v_icmp_ne (pc := 12) 30 dX9_dropSpokenBelowAlert_12 rfl (fun hc => ?_) (fun hc => ?_)
  · replace hF := (okB_if hF).2 hc
    exact v_ret (pc := 30) dX9_dropSpokenBelowAlert_30 rfl (okr hF fun q => q)
  replace hF := (okB_if hF).1 hc
  refine v_aload_n (pc := 15) (i := 0) dX9_dropSpokenBelowAlert_15 rfl rfl ?_
  refine v_iconst (pc := 16) (v := (-1 : Int32)) dX9_dropSpokenBelowAlert_16 rfl ?_
  refine s_putI (pc := 17) dX9_dropSpokenBelowAlert_17 flX9_33 (Or.inl rfl) rfl hF (fun h6 hF => ?_)
  refine v_aload_n (pc := 20) (i := 0) dX9_dropSpokenBelowAlert_20 rfl rfl ?_
  refine v_dup (pc := 21) dX9_dropSpokenBelowAlert_21 rfl ?_
  refine s_getI (pc := 22) dX9_dropSpokenBelowAlert_22 flX9_60 rfl hF (fun x7 hF => ?_)
  refine v_iconst (pc := 25) (v := (1 : Int32)) dX9_dropSpokenBelowAlert_25 rfl ?_
  refine v_iadd (pc := 26) dX9_dropSpokenBelowAlert_26 ?_
  refine s_putI (pc := 27) dX9_dropSpokenBelowAlert_27 flX9_60 (Or.inl rfl) rfl hF (fun h8 hF => ?_)
  exact v_ret (pc := 30) dX9_dropSpokenBelowAlert_30 rfl (okr hF fun q => q)
