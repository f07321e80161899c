/-! ===== methods: their functions and rows ===== -/
theorem dX2_init_0 : decode cX2_init 0 = .ok (.aload_n 0, 1) := by decide +kernel
theorem dX2_init_1 : decode cX2_init 1 = .ok (.invokespecial 3, 3) := by decide +kernel
theorem dX2_init_4 : decode cX2_init 4 = .ok (.aload_n 0, 1) := by decide +kernel
theorem dX2_init_5 : decode cX2_init 5 = .ok (.iload_n 1, 1) := by decide +kernel
theorem dX2_init_6 : decode cX2_init 6 = .ok (.putfield 9, 3) := by decide +kernel
theorem dX2_init_9 : decode cX2_init 9 = .ok (.aload_n 0, 1) := by decide +kernel
theorem dX2_init_10 : decode cX2_init 10 = .ok (.iload_n 2, 1) := by decide +kernel
theorem dX2_init_11 : decode cX2_init 11 = .ok (.putfield 15, 3) := by decide +kernel
theorem dX2_init_14 : decode cX2_init 14 = .ok (.aload_n 0, 1) := by decide +kernel
theorem dX2_init_15 : decode cX2_init 15 = .ok (.aload_n 3, 1) := by decide +kernel
theorem dX2_init_16 : decode cX2_init 16 = .ok (.putfield 18, 3) := by decide +kernel
theorem dX2_init_19 : decode cX2_init 19 = .ok (.aload_n 0, 1) := by decide +kernel
theorem dX2_init_20 : decode cX2_init 20 = .ok (.bipush 10, 2) := by decide +kernel
theorem dX2_init_22 : decode cX2_init 22 = .ok (.anewarray 10, 3) := by decide +kernel
theorem dX2_init_25 : decode cX2_init 25 = .ok (.putfield 22, 3) := by decide +kernel
theorem dX2_init_28 : decode cX2_init 28 = .ok (.aload_n 0, 1) := by decide +kernel
theorem dX2_init_29 : decode cX2_init 29 = .ok (.new 26, 3) := by decide +kernel
theorem dX2_init_32 : decode cX2_init 32 = .ok (.dup, 1) := by decide +kernel
theorem dX2_init_33 : decode cX2_init 33 = .ok (.bipush 12, 2) := by decide +kernel
theorem dX2_init_35 : decode cX2_init 35 = .ok (.invokespecial 28, 3) := by decide +kernel
theorem dX2_init_38 : decode cX2_init 38 = .ok (.putfield 31, 3) := by decide +kernel
theorem dX2_init_41 : decode cX2_init 41 = .ok (.aload_n 0, 1) := by decide +kernel
theorem dX2_init_42 : decode cX2_init 42 = .ok (.new 26, 3) := by decide +kernel
theorem dX2_init_45 : decode cX2_init 45 = .ok (.dup, 1) := by decide +kernel
theorem dX2_init_46 : decode cX2_init 46 = .ok (.iload_n 2, 1) := by decide +kernel
theorem dX2_init_47 : decode cX2_init 47 = .ok (.iconst 4, 1) := by decide +kernel
theorem dX2_init_48 : decode cX2_init 48 = .ok (.if_icmp .ne 8, 3) := by decide +kernel
theorem dX2_init_51 : decode cX2_init 51 = .ok (.bipush 12, 2) := by decide +kernel
theorem dX2_init_53 : decode cX2_init 53 = .ok (.goto 4, 3) := by decide +kernel
theorem dX2_init_56 : decode cX2_init 56 = .ok (.iconst 0, 1) := by decide +kernel
theorem dX2_init_57 : decode cX2_init 57 = .ok (.invokespecial 28, 3) := by decide +kernel
theorem dX2_init_60 : decode cX2_init 60 = .ok (.putfield 35, 3) := by decide +kernel
theorem dX2_init_63 : decode cX2_init 63 = .ok (.aload_n 0, 1) := by decide +kernel
theorem dX2_init_64 : decode cX2_init 64 = .ok (.iconst (-1), 1) := by decide +kernel
theorem dX2_init_65 : decode cX2_init 65 = .ok (.putfield 38, 3) := by decide +kernel
theorem dX2_init_68 : decode cX2_init 68 = .ok (.aload_n 0, 1) := by decide +kernel
theorem dX2_init_69 : decode cX2_init 69 = .ok (.iconst 1, 1) := by decide +kernel
theorem dX2_init_70 : decode cX2_init 70 = .ok (.putfield 41, 3) := by decide +kernel
theorem dX2_init_73 : decode cX2_init 73 = .ok (.aload_n 0, 1) := by decide +kernel
theorem dX2_init_74 : decode cX2_init 74 = .ok (.new 26, 3) := by decide +kernel
theorem dX2_init_77 : decode cX2_init 77 = .ok (.dup, 1) := by decide +kernel
theorem dX2_init_78 : decode cX2_init 78 = .ok (.iload_n 2, 1) := by decide +kernel
theorem dX2_init_79 : decode cX2_init 79 = .ok (.bipush 7, 2) := by decide +kernel
theorem dX2_init_81 : decode cX2_init 81 = .ok (.if_icmp .ne 8, 3) := by decide +kernel
theorem dX2_init_84 : decode cX2_init 84 = .ok (.bipush 80, 2) := by decide +kernel
theorem dX2_init_86 : decode cX2_init 86 = .ok (.goto 4, 3) := by decide +kernel
theorem dX2_init_89 : decode cX2_init 89 = .ok (.iconst 0, 1) := by decide +kernel
theorem dX2_init_90 : decode cX2_init 90 = .ok (.invokespecial 28, 3) := by decide +kernel
theorem dX2_init_93 : decode cX2_init 93 = .ok (.putfield 44, 3) := by decide +kernel
theorem dX2_init_96 : decode cX2_init 96 = .ok (.return_, 1) := by decide +kernel
theorem dX2_size_0 : decode cX2_size 0 = .ok (.aload_n 0, 1) := by decide +kernel
theorem dX2_size_1 : decode cX2_size 1 = .ok (.getfield 47, 3) := by decide +kernel
theorem dX2_size_4 : decode cX2_size 4 = .ok (.ireturn, 1) := by decide +kernel
theorem dX2_child_0 : decode cX2_child 0 = .ok (.iload_n 1, 1) := by decide +kernel
theorem dX2_child_1 : decode cX2_child 1 = .ok (.ifCond .lt 29, 3) := by decide +kernel
theorem dX2_child_4 : decode cX2_child 4 = .ok (.iload_n 1, 1) := by decide +kernel
theorem dX2_child_5 : decode cX2_child 5 = .ok (.aload_n 0, 1) := by decide +kernel
theorem dX2_child_6 : decode cX2_child 6 = .ok (.getfield 47, 3) := by decide +kernel
theorem dX2_child_9 : decode cX2_child 9 = .ok (.if_icmp .ge 21, 3) := by decide +kernel
theorem dX2_child_12 : decode cX2_child 12 = .ok (.iload_n 1, 1) := by decide +kernel
theorem dX2_child_13 : decode cX2_child 13 = .ok (.aload_n 0, 1) := by decide +kernel
theorem dX2_child_14 : decode cX2_child 14 = .ok (.getfield 22, 3) := by decide +kernel
theorem dX2_child_17 : decode cX2_child 17 = .ok (.arraylength, 1) := by decide +kernel
theorem dX2_child_18 : decode cX2_child 18 = .ok (.if_icmp .ge 12, 3) := by decide +kernel
theorem dX2_child_21 : decode cX2_child 21 = .ok (.aload_n 0, 1) := by decide +kernel
theorem dX2_child_22 : decode cX2_child 22 = .ok (.getfield 22, 3) := by decide +kernel
theorem dX2_child_25 : decode cX2_child 25 = .ok (.iload_n 1, 1) := by decide +kernel
theorem dX2_child_26 : decode cX2_child 26 = .ok (.aaload, 1) := by decide +kernel
theorem dX2_child_27 : decode cX2_child 27 = .ok (.goto 4, 3) := by decide +kernel
theorem dX2_child_30 : decode cX2_child 30 = .ok (.aconst_null, 1) := by decide +kernel
theorem dX2_child_31 : decode cX2_child 31 = .ok (.areturn, 1) := by decide +kernel
theorem dX2_shownChild_0 : decode cX2_shownChild 0 = .ok (.iload_n 1, 1) := by decide +kernel
theorem dX2_shownChild_1 : decode cX2_shownChild 1 = .ok (.ifCond .lt 29, 3) := by decide +kernel
theorem dX2_shownChild_4 : decode cX2_shownChild 4 = .ok (.iload_n 1, 1) := by decide +kernel
theorem dX2_shownChild_5 : decode cX2_shownChild 5 = .ok (.aload_n 0, 1) := by decide +kernel
theorem dX2_shownChild_6 : decode cX2_shownChild 6 = .ok (.getfield 47, 3) := by decide +kernel
theorem dX2_shownChild_9 : decode cX2_shownChild 9 = .ok (.if_icmp .ge 21, 3) := by decide +kernel
theorem dX2_shownChild_12 : decode cX2_shownChild 12 = .ok (.iload_n 1, 1) := by decide +kernel
theorem dX2_shownChild_13 : decode cX2_shownChild 13 = .ok (.aload_n 0, 1) := by decide +kernel
theorem dX2_shownChild_14 : decode cX2_shownChild 14 = .ok (.getfield 22, 3) := by decide +kernel
theorem dX2_shownChild_17 : decode cX2_shownChild 17 = .ok (.arraylength, 1) := by decide +kernel
theorem dX2_shownChild_18 : decode cX2_shownChild 18 = .ok (.if_icmp .ge 12, 3) := by decide +kernel
theorem dX2_shownChild_21 : decode cX2_shownChild 21 = .ok (.aload_n 0, 1) := by decide +kernel
theorem dX2_shownChild_22 : decode cX2_shownChild 22 = .ok (.getfield 22, 3) := by decide +kernel
theorem dX2_shownChild_25 : decode cX2_shownChild 25 = .ok (.iload_n 1, 1) := by decide +kernel
theorem dX2_shownChild_26 : decode cX2_shownChild 26 = .ok (.aaload, 1) := by decide +kernel
theorem dX2_shownChild_27 : decode cX2_shownChild 27 = .ok (.goto 4, 3) := by decide +kernel
theorem dX2_shownChild_30 : decode cX2_shownChild 30 = .ok (.aconst_null, 1) := by decide +kernel
theorem dX2_shownChild_31 : decode cX2_shownChild 31 = .ok (.astore_n 2, 1) := by decide +kernel
theorem dX2_shownChild_32 : decode cX2_shownChild 32 = .ok (.aload_n 2, 1) := by decide +kernel
theorem dX2_shownChild_33 : decode cX2_shownChild 33 = .ok (.ifnull 10, 3) := by decide +kernel
theorem dX2_shownChild_36 : decode cX2_shownChild 36 = .ok (.aload_n 2, 1) := by decide +kernel
theorem dX2_shownChild_37 : decode cX2_shownChild 37 = .ok (.getfield 50, 3) := by decide +kernel
theorem dX2_shownChild_40 : decode cX2_shownChild 40 = .ok (.ifCond .eq 7, 3) := by decide +kernel
theorem dX2_shownChild_43 : decode cX2_shownChild 43 = .ok (.aconst_null, 1) := by decide +kernel
theorem dX2_shownChild_44 : decode cX2_shownChild 44 = .ok (.goto 4, 3) := by decide +kernel
theorem dX2_shownChild_47 : decode cX2_shownChild 47 = .ok (.aload_n 2, 1) := by decide +kernel
theorem dX2_shownChild_48 : decode cX2_shownChild 48 = .ok (.areturn, 1) := by decide +kernel
theorem dX2_placeOf_0 : decode cX2_placeOf 0 = .ok (.iconst 0, 1) := by decide +kernel
theorem dX2_placeOf_1 : decode cX2_placeOf 1 = .ok (.istore_n 2, 1) := by decide +kernel
theorem dX2_placeOf_2 : decode cX2_placeOf 2 = .ok (.iload_n 2, 1) := by decide +kernel
theorem dX2_placeOf_3 : decode cX2_placeOf 3 = .ok (.aload_n 0, 1) := by decide +kernel
theorem dX2_placeOf_4 : decode cX2_placeOf 4 = .ok (.getfield 47, 3) := by decide +kernel
theorem dX2_placeOf_7 : decode cX2_placeOf 7 = .ok (.if_icmp .ge 20, 3) := by decide +kernel
theorem dX2_placeOf_10 : decode cX2_placeOf 10 = .ok (.aload_n 0, 1) := by decide +kernel
theorem dX2_placeOf_11 : decode cX2_placeOf 11 = .ok (.iload_n 2, 1) := by decide +kernel
theorem dX2_placeOf_12 : decode cX2_placeOf 12 = .ok (.invokevirtual 54, 3) := by decide +kernel
theorem dX2_placeOf_15 : decode cX2_placeOf 15 = .ok (.aload_n 1, 1) := by decide +kernel
theorem dX2_placeOf_16 : decode cX2_placeOf 16 = .ok (.if_acmp .ne 5, 3) := by decide +kernel
theorem dX2_placeOf_19 : decode cX2_placeOf 19 = .ok (.iload_n 2, 1) := by decide +kernel
theorem dX2_placeOf_20 : decode cX2_placeOf 20 = .ok (.ireturn, 1) := by decide +kernel
theorem dX2_placeOf_21 : decode cX2_placeOf 21 = .ok (.iinc 2 1, 3) := by decide +kernel
theorem dX2_placeOf_24 : decode cX2_placeOf 24 = .ok (.goto (-22), 3) := by decide +kernel
theorem dX2_placeOf_27 : decode cX2_placeOf 27 = .ok (.iconst (-1), 1) := by decide +kernel
theorem dX2_placeOf_28 : decode cX2_placeOf 28 = .ok (.ireturn, 1) := by decide +kernel
theorem dX2_canHave_0 : decode cX2_canHave 0 = .ok (.aload_n 0, 1) := by decide +kernel
theorem dX2_canHave_1 : decode cX2_canHave 1 = .ok (.getfield 15, 3) := by decide +kernel
theorem dX2_canHave_4 : decode cX2_canHave 4 = .ok (.tableswitch 98 0 7 #[48, 98, 98, 98, 98, 60, 72, 48], 48) := by decide +kernel
theorem dX2_canHave_52 : decode cX2_canHave 52 = .ok (.iload_n 1, 1) := by decide +kernel
theorem dX2_canHave_53 : decode cX2_canHave 53 = .ok (.bipush 6, 2) := by decide +kernel
theorem dX2_canHave_55 : decode cX2_canHave 55 = .ok (.if_icmp .eq 7, 3) := by decide +kernel
theorem dX2_canHave_58 : decode cX2_canHave 58 = .ok (.iconst 1, 1) := by decide +kernel
theorem dX2_canHave_59 : decode cX2_canHave 59 = .ok (.goto 4, 3) := by decide +kernel
theorem dX2_canHave_62 : decode cX2_canHave 62 = .ok (.iconst 0, 1) := by decide +kernel
theorem dX2_canHave_63 : decode cX2_canHave 63 = .ok (.ireturn, 1) := by decide +kernel
theorem dX2_canHave_64 : decode cX2_canHave 64 = .ok (.iload_n 1, 1) := by decide +kernel
theorem dX2_canHave_65 : decode cX2_canHave 65 = .ok (.bipush 6, 2) := by decide +kernel
theorem dX2_canHave_67 : decode cX2_canHave 67 = .ok (.if_icmp .ne 7, 3) := by decide +kernel
theorem dX2_canHave_70 : decode cX2_canHave 70 = .ok (.iconst 1, 1) := by decide +kernel
theorem dX2_canHave_71 : decode cX2_canHave 71 = .ok (.goto 4, 3) := by decide +kernel
theorem dX2_canHave_74 : decode cX2_canHave 74 = .ok (.iconst 0, 1) := by decide +kernel
theorem dX2_canHave_75 : decode cX2_canHave 75 = .ok (.ireturn, 1) := by decide +kernel
theorem dX2_canHave_76 : decode cX2_canHave 76 = .ok (.iload_n 1, 1) := by decide +kernel
theorem dX2_canHave_77 : decode cX2_canHave 77 = .ok (.iconst 1, 1) := by decide +kernel
theorem dX2_canHave_78 : decode cX2_canHave 78 = .ok (.if_icmp .eq 18, 3) := by decide +kernel
theorem dX2_canHave_81 : decode cX2_canHave 81 = .ok (.iload_n 1, 1) := by decide +kernel
theorem dX2_canHave_82 : decode cX2_canHave 82 = .ok (.iconst 2, 1) := by decide +kernel
theorem dX2_canHave_83 : decode cX2_canHave 83 = .ok (.if_icmp .eq 13, 3) := by decide +kernel
theorem dX2_canHave_86 : decode cX2_canHave 86 = .ok (.iload_n 1, 1) := by decide +kernel
theorem dX2_canHave_87 : decode cX2_canHave 87 = .ok (.iconst 3, 1) := by decide +kernel
theorem dX2_canHave_88 : decode cX2_canHave 88 = .ok (.if_icmp .eq 8, 3) := by decide +kernel
theorem dX2_canHave_91 : decode cX2_canHave 91 = .ok (.iload_n 1, 1) := by decide +kernel
theorem dX2_canHave_92 : decode cX2_canHave 92 = .ok (.iconst 4, 1) := by decide +kernel
theorem dX2_canHave_93 : decode cX2_canHave 93 = .ok (.if_icmp .ne 7, 3) := by decide +kernel
theorem dX2_canHave_96 : decode cX2_canHave 96 = .ok (.iconst 1, 1) := by decide +kernel
theorem dX2_canHave_97 : decode cX2_canHave 97 = .ok (.goto 4, 3) := by decide +kernel
theorem dX2_canHave_100 : decode cX2_canHave 100 = .ok (.iconst 0, 1) := by decide +kernel
theorem dX2_canHave_101 : decode cX2_canHave 101 = .ok (.ireturn, 1) := by decide +kernel
theorem dX2_canHave_102 : decode cX2_canHave 102 = .ok (.iconst 0, 1) := by decide +kernel
theorem dX2_canHave_103 : decode cX2_canHave 103 = .ok (.ireturn, 1) := by decide +kernel
theorem dX2_insert_0 : decode cX2_insert 0 = .ok (.aload_n 0, 1) := by decide +kernel
theorem dX2_insert_1 : decode cX2_insert 1 = .ok (.getfield 47, 3) := by decide +kernel
theorem dX2_insert_4 : decode cX2_insert 4 = .ok (.ifCond .lt 27, 3) := by decide +kernel
theorem dX2_insert_7 : decode cX2_insert 7 = .ok (.aload_n 0, 1) := by decide +kernel
theorem dX2_insert_8 : decode cX2_insert 8 = .ok (.getfield 47, 3) := by decide +kernel
theorem dX2_insert_11 : decode cX2_insert 11 = .ok (.aload_n 0, 1) := by decide +kernel
theorem dX2_insert_12 : decode cX2_insert 12 = .ok (.getfield 22, 3) := by decide +kernel
theorem dX2_insert_15 : decode cX2_insert 15 = .ok (.arraylength, 1) := by decide +kernel
theorem dX2_insert_16 : decode cX2_insert 16 = .ok (.if_icmp .ge 15, 3) := by decide +kernel
theorem dX2_insert_19 : decode cX2_insert 19 = .ok (.iload_n 2, 1) := by decide +kernel
theorem dX2_insert_20 : decode cX2_insert 20 = .ok (.ifCond .lt 11, 3) := by decide +kernel
theorem dX2_insert_23 : decode cX2_insert 23 = .ok (.iload_n 2, 1) := by decide +kernel
theorem dX2_insert_24 : decode cX2_insert 24 = .ok (.aload_n 0, 1) := by decide +kernel
theorem dX2_insert_25 : decode cX2_insert 25 = .ok (.getfield 47, 3) := by decide +kernel
theorem dX2_insert_28 : decode cX2_insert 28 = .ok (.if_icmp .le 4, 3) := by decide +kernel
theorem dX2_insert_31 : decode cX2_insert 31 = .ok (.return_, 1) := by decide +kernel
theorem dX2_insert_32 : decode cX2_insert 32 = .ok (.aload_n 0, 1) := by decide +kernel
theorem dX2_insert_33 : decode cX2_insert 33 = .ok (.getfield 47, 3) := by decide +kernel
theorem dX2_insert_36 : decode cX2_insert 36 = .ok (.istore_n 3, 1) := by decide +kernel
theorem dX2_insert_37 : decode cX2_insert 37 = .ok (.iload_n 3, 1) := by decide +kernel
theorem dX2_insert_38 : decode cX2_insert 38 = .ok (.iload_n 2, 1) := by decide +kernel
theorem dX2_insert_39 : decode cX2_insert 39 = .ok (.if_icmp .le 23, 3) := by decide +kernel
theorem dX2_insert_42 : decode cX2_insert 42 = .ok (.aload_n 0, 1) := by decide +kernel
theorem dX2_insert_43 : decode cX2_insert 43 = .ok (.getfield 22, 3) := by decide +kernel
theorem dX2_insert_46 : decode cX2_insert 46 = .ok (.iload_n 3, 1) := by decide +kernel
theorem dX2_insert_47 : decode cX2_insert 47 = .ok (.aload_n 0, 1) := by decide +kernel
theorem dX2_insert_48 : decode cX2_insert 48 = .ok (.getfield 22, 3) := by decide +kernel
theorem dX2_insert_51 : decode cX2_insert 51 = .ok (.iload_n 3, 1) := by decide +kernel
theorem dX2_insert_52 : decode cX2_insert 52 = .ok (.iconst 1, 1) := by decide +kernel
theorem dX2_insert_53 : decode cX2_insert 53 = .ok (.isub, 1) := by decide +kernel
theorem dX2_insert_54 : decode cX2_insert 54 = .ok (.aaload, 1) := by decide +kernel
theorem dX2_insert_55 : decode cX2_insert 55 = .ok (.aastore, 1) := by decide +kernel
theorem dX2_insert_56 : decode cX2_insert 56 = .ok (.iinc 3 (-1), 3) := by decide +kernel
theorem dX2_insert_59 : decode cX2_insert 59 = .ok (.goto (-22), 3) := by decide +kernel
theorem dX2_insert_62 : decode cX2_insert 62 = .ok (.aload_n 0, 1) := by decide +kernel
theorem dX2_insert_63 : decode cX2_insert 63 = .ok (.getfield 22, 3) := by decide +kernel
theorem dX2_insert_66 : decode cX2_insert 66 = .ok (.iload_n 2, 1) := by decide +kernel
theorem dX2_insert_67 : decode cX2_insert 67 = .ok (.aload_n 1, 1) := by decide +kernel
theorem dX2_insert_68 : decode cX2_insert 68 = .ok (.aastore, 1) := by decide +kernel
theorem dX2_insert_69 : decode cX2_insert 69 = .ok (.aload_n 0, 1) := by decide +kernel
theorem dX2_insert_70 : decode cX2_insert 70 = .ok (.dup, 1) := by decide +kernel
theorem dX2_insert_71 : decode cX2_insert 71 = .ok (.getfield 47, 3) := by decide +kernel
theorem dX2_insert_74 : decode cX2_insert 74 = .ok (.iconst 1, 1) := by decide +kernel
theorem dX2_insert_75 : decode cX2_insert 75 = .ok (.iadd, 1) := by decide +kernel
theorem dX2_insert_76 : decode cX2_insert 76 = .ok (.putfield 47, 3) := by decide +kernel
theorem dX2_insert_79 : decode cX2_insert 79 = .ok (.return_, 1) := by decide +kernel
theorem dX2_takeOut_0 : decode cX2_takeOut 0 = .ok (.aload_n 0, 1) := by decide +kernel
theorem dX2_takeOut_1 : decode cX2_takeOut 1 = .ok (.aload_n 1, 1) := by decide +kernel
theorem dX2_takeOut_2 : decode cX2_takeOut 2 = .ok (.invokevirtual 58, 3) := by decide +kernel
theorem dX2_takeOut_5 : decode cX2_takeOut 5 = .ok (.istore_n 2, 1) := by decide +kernel
theorem dX2_takeOut_6 : decode cX2_takeOut 6 = .ok (.iload_n 2, 1) := by decide +kernel
theorem dX2_takeOut_7 : decode cX2_takeOut 7 = .ok (.ifCond .lt 15, 3) := by decide +kernel
theorem dX2_takeOut_10 : decode cX2_takeOut 10 = .ok (.aload_n 0, 1) := by decide +kernel
theorem dX2_takeOut_11 : decode cX2_takeOut 11 = .ok (.getfield 47, 3) := by decide +kernel
theorem dX2_takeOut_14 : decode cX2_takeOut 14 = .ok (.aload_n 0, 1) := by decide +kernel
theorem dX2_takeOut_15 : decode cX2_takeOut 15 = .ok (.getfield 22, 3) := by decide +kernel
theorem dX2_takeOut_18 : decode cX2_takeOut 18 = .ok (.arraylength, 1) := by decide +kernel
theorem dX2_takeOut_19 : decode cX2_takeOut 19 = .ok (.if_icmp .le 4, 3) := by decide +kernel
theorem dX2_takeOut_22 : decode cX2_takeOut 22 = .ok (.return_, 1) := by decide +kernel
theorem dX2_takeOut_23 : decode cX2_takeOut 23 = .ok (.iload_n 2, 1) := by decide +kernel
theorem dX2_takeOut_24 : decode cX2_takeOut 24 = .ok (.istore_n 3, 1) := by decide +kernel
theorem dX2_takeOut_25 : decode cX2_takeOut 25 = .ok (.iload_n 3, 1) := by decide +kernel
theorem dX2_takeOut_26 : decode cX2_takeOut 26 = .ok (.iconst 1, 1) := by decide +kernel
theorem dX2_takeOut_27 : decode cX2_takeOut 27 = .ok (.iadd, 1) := by decide +kernel
theorem dX2_takeOut_28 : decode cX2_takeOut 28 = .ok (.aload_n 0, 1) := by decide +kernel
theorem dX2_takeOut_29 : decode cX2_takeOut 29 = .ok (.getfield 47, 3) := by decide +kernel
theorem dX2_takeOut_32 : decode cX2_takeOut 32 = .ok (.if_icmp .ge 23, 3) := by decide +kernel
theorem dX2_takeOut_35 : decode cX2_takeOut 35 = .ok (.aload_n 0, 1) := by decide +kernel
theorem dX2_takeOut_36 : decode cX2_takeOut 36 = .ok (.getfield 22, 3) := by decide +kernel
theorem dX2_takeOut_39 : decode cX2_takeOut 39 = .ok (.iload_n 3, 1) := by decide +kernel
theorem dX2_takeOut_40 : decode cX2_takeOut 40 = .ok (.aload_n 0, 1) := by decide +kernel
theorem dX2_takeOut_41 : decode cX2_takeOut 41 = .ok (.getfield 22, 3) := by decide +kernel
theorem dX2_takeOut_44 : decode cX2_takeOut 44 = .ok (.iload_n 3, 1) := by decide +kernel
theorem dX2_takeOut_45 : decode cX2_takeOut 45 = .ok (.iconst 1, 1) := by decide +kernel
theorem dX2_takeOut_46 : decode cX2_takeOut 46 = .ok (.iadd, 1) := by decide +kernel
theorem dX2_takeOut_47 : decode cX2_takeOut 47 = .ok (.aaload, 1) := by decide +kernel
theorem dX2_takeOut_48 : decode cX2_takeOut 48 = .ok (.aastore, 1) := by decide +kernel
theorem dX2_takeOut_49 : decode cX2_takeOut 49 = .ok (.iinc 3 1, 3) := by decide +kernel
theorem dX2_takeOut_52 : decode cX2_takeOut 52 = .ok (.goto (-27), 3) := by decide +kernel
theorem dX2_takeOut_55 : decode cX2_takeOut 55 = .ok (.aload_n 0, 1) := by decide +kernel
theorem dX2_takeOut_56 : decode cX2_takeOut 56 = .ok (.dup, 1) := by decide +kernel
theorem dX2_takeOut_57 : decode cX2_takeOut 57 = .ok (.getfield 47, 3) := by decide +kernel
theorem dX2_takeOut_60 : decode cX2_takeOut 60 = .ok (.iconst 1, 1) := by decide +kernel
theorem dX2_takeOut_61 : decode cX2_takeOut 61 = .ok (.isub, 1) := by decide +kernel
theorem dX2_takeOut_62 : decode cX2_takeOut 62 = .ok (.putfield 47, 3) := by decide +kernel
theorem dX2_takeOut_65 : decode cX2_takeOut 65 = .ok (.return_, 1) := by decide +kernel
theorem dX2_isWithin_0 : decode cX2_isWithin 0 = .ok (.aload_n 0, 1) := by decide +kernel
theorem dX2_isWithin_1 : decode cX2_isWithin 1 = .ok (.astore_n 2, 1) := by decide +kernel
theorem dX2_isWithin_2 : decode cX2_isWithin 2 = .ok (.aload_n 2, 1) := by decide +kernel
theorem dX2_isWithin_3 : decode cX2_isWithin 3 = .ok (.ifnull 18, 3) := by decide +kernel
theorem dX2_isWithin_6 : decode cX2_isWithin 6 = .ok (.aload_n 2, 1) := by decide +kernel
theorem dX2_isWithin_7 : decode cX2_isWithin 7 = .ok (.aload_n 1, 1) := by decide +kernel
theorem dX2_isWithin_8 : decode cX2_isWithin 8 = .ok (.if_acmp .ne 5, 3) := by decide +kernel
theorem dX2_isWithin_11 : decode cX2_isWithin 11 = .ok (.iconst 1, 1) := by decide +kernel
theorem dX2_isWithin_12 : decode cX2_isWithin 12 = .ok (.ireturn, 1) := by decide +kernel
theorem dX2_isWithin_13 : decode cX2_isWithin 13 = .ok (.aload_n 2, 1) := by decide +kernel
theorem dX2_isWithin_14 : decode cX2_isWithin 14 = .ok (.getfield 18, 3) := by decide +kernel
theorem dX2_isWithin_17 : decode cX2_isWithin 17 = .ok (.astore_n 2, 1) := by decide +kernel
theorem dX2_isWithin_18 : decode cX2_isWithin 18 = .ok (.goto (-16), 3) := by decide +kernel
theorem dX2_isWithin_21 : decode cX2_isWithin 21 = .ok (.iconst 0, 1) := by decide +kernel
theorem dX2_isWithin_22 : decode cX2_isWithin 22 = .ok (.ireturn, 1) := by decide +kernel
theorem dX2_isShownNow_0 : decode cX2_isShownNow 0 = .ok (.aload_n 0, 1) := by decide +kernel
theorem dX2_isShownNow_1 : decode cX2_isShownNow 1 = .ok (.astore_n 1, 1) := by decide +kernel
theorem dX2_isShownNow_2 : decode cX2_isShownNow 2 = .ok (.aload_n 1, 1) := by decide +kernel
theorem dX2_isShownNow_3 : decode cX2_isShownNow 3 = .ok (.ifnull 20, 3) := by decide +kernel
theorem dX2_isShownNow_6 : decode cX2_isShownNow 6 = .ok (.aload_n 1, 1) := by decide +kernel
theorem dX2_isShownNow_7 : decode cX2_isShownNow 7 = .ok (.getfield 50, 3) := by decide +kernel
theorem dX2_isShownNow_10 : decode cX2_isShownNow 10 = .ok (.ifCond .eq 5, 3) := by decide +kernel
theorem dX2_isShownNow_13 : decode cX2_isShownNow 13 = .ok (.iconst 0, 1) := by decide +kernel
theorem dX2_isShownNow_14 : decode cX2_isShownNow 14 = .ok (.ireturn, 1) := by decide +kernel
theorem dX2_isShownNow_15 : decode cX2_isShownNow 15 = .ok (.aload_n 1, 1) := by decide +kernel
theorem dX2_isShownNow_16 : decode cX2_isShownNow 16 = .ok (.getfield 18, 3) := by decide +kernel
theorem dX2_isShownNow_19 : decode cX2_isShownNow 19 = .ok (.astore_n 1, 1) := by decide +kernel
theorem dX2_isShownNow_20 : decode cX2_isShownNow 20 = .ok (.goto (-18), 3) := by decide +kernel
theorem dX2_isShownNow_23 : decode cX2_isShownNow 23 = .ok (.iconst 1, 1) := by decide +kernel
theorem dX2_isShownNow_24 : decode cX2_isShownNow 24 = .ok (.ireturn, 1) := by decide +kernel
abbrev mX2_init : gM := (yX2_init, cX2_init, 4, (Option.none : Option FieldType), [])
theorem caX2_init : cal mX2_init 3 := ⟨xw 68 (by decide +kernel) rfl, xw 31 (by decide +kernel) rfl, by decide, by decide +kernel⟩
theorem ciX2_init : Cond.instanceMethod yX2_init ∈ XW := xw 67 (by decide +kernel) rfl
abbrev mX2_size : gM := (yX2_size, cX2_size, 1, (Option.some FieldType.int), [])
theorem caX2_size : cal mX2_size 0 := ⟨xw 678 (by decide +kernel) rfl, xw 31 (by decide +kernel) rfl, by decide, by decide +kernel⟩
theorem cvX2_size : calV mX2_size := ⟨xw 676 (by decide +kernel) rfl, xw 677 (by decide +kernel) rfl⟩
abbrev mX2_child : gM := (yX2_child, cX2_child, 2, (Option.some (FieldType.object "BrailleDesk$Element")), [])
theorem caX2_child : cal mX2_child 1 := ⟨xw 634 (by decide +kernel) rfl, xw 31 (by decide +kernel) rfl, by decide, by decide +kernel⟩
theorem cvX2_child : calV mX2_child := ⟨xw 632 (by decide +kernel) rfl, xw 633 (by decide +kernel) rfl⟩
abbrev mX2_shownChild : gM := (yX2_shownChild, cX2_shownChild, 3, (Option.some (FieldType.object "BrailleDesk$Element")), [])
theorem caX2_shownChild : cal mX2_shownChild 1 := ⟨xw 664 (by decide +kernel) rfl, xw 31 (by decide +kernel) rfl, by decide, by decide +kernel⟩
theorem cvX2_shownChild : calV mX2_shownChild := ⟨xw 662 (by decide +kernel) rfl, xw 663 (by decide +kernel) rfl⟩
abbrev mX2_placeOf : gM := (yX2_placeOf, cX2_placeOf, 3, (Option.some FieldType.int), [])
theorem caX2_placeOf : cal mX2_placeOf 1 := ⟨xw 643 (by decide +kernel) rfl, xw 31 (by decide +kernel) rfl, by decide, by decide +kernel⟩
theorem cvX2_placeOf : calV mX2_placeOf := ⟨xw 641 (by decide +kernel) rfl, xw 642 (by decide +kernel) rfl⟩
abbrev mX2_canHave : gM := (yX2_canHave, cX2_canHave, 2, (Option.some FieldType.boolean), [])
theorem caX2_canHave : cal mX2_canHave 1 := ⟨xw 989 (by decide +kernel) rfl, xw 31 (by decide +kernel) rfl, by decide, by decide +kernel⟩
theorem cvX2_canHave : calV mX2_canHave := ⟨xw 987 (by decide +kernel) rfl, xw 988 (by decide +kernel) rfl⟩
abbrev mX2_insert : gM := (yX2_insert, cX2_insert, 4, (Option.none : Option FieldType), [])
theorem caX2_insert : cal mX2_insert 2 := ⟨xw 1004 (by decide +kernel) rfl, xw 31 (by decide +kernel) rfl, by decide, by decide +kernel⟩
theorem cvX2_insert : calV mX2_insert := ⟨xw 1002 (by decide +kernel) rfl, xw 1003 (by decide +kernel) rfl⟩
abbrev mX2_takeOut : gM := (yX2_takeOut, cX2_takeOut, 4, (Option.none : Option FieldType), [])
theorem caX2_takeOut : cal mX2_takeOut 1 := ⟨xw 1066 (by decide +kernel) rfl, xw 31 (by decide +kernel) rfl, by decide, by decide +kernel⟩
theorem cvX2_takeOut : calV mX2_takeOut := ⟨xw 1064 (by decide +kernel) rfl, xw 1065 (by decide +kernel) rfl⟩
abbrev mX2_isWithin : gM := (yX2_isWithin, cX2_isWithin, 3, (Option.some FieldType.boolean), [])
theorem caX2_isWithin : cal mX2_isWithin 1 := ⟨xw 1057 (by decide +kernel) rfl, xw 31 (by decide +kernel) rfl, by decide, by decide +kernel⟩
theorem cvX2_isWithin : calV mX2_isWithin := ⟨xw 1055 (by decide +kernel) rfl, xw 1056 (by decide +kernel) rfl⟩
abbrev mX2_isShownNow : gM := (yX2_isShownNow, cX2_isShownNow, 2, (Option.some FieldType.boolean), [])
theorem caX2_isShownNow : cal mX2_isShownNow 0 := ⟨xw 818 (by decide +kernel) rfl, xw 31 (by decide +kernel) rfl, by decide, by decide +kernel⟩
theorem cvX2_isShownNow : calV mX2_isShownNow := ⟨xw 816 (by decide +kernel) rfl, xw 817 (by decide +kernel) rfl⟩
theorem lkX2_3 : Cond.methodLink RX2 3 objectInit ∈ XW := xw 69 (by decide +kernel) rfl
theorem flX2_9 : fl RX2 9 1 0 := ⟨by decide, by decide, xw 86 (by decide +kernel) rfl⟩
theorem flX2_15 : fl RX2 15 1 1 := ⟨by decide, by decide, xw 88 (by decide +kernel) rfl⟩
theorem ccX2_10 : Cond.classLink RX2 10 (hk_C 1) ∈ XW := xw 70 (by decide +kernel) rfl
theorem flX2_22 : fl RX2 22 1 3 := ⟨by decide, by decide, xw 98 (by decide +kernel) rfl⟩
theorem ccX2_26 : Cond.classLink RX2 26 (hk_C 0) ∈ XW := xw 72 (by decide +kernel) rfl
theorem ins_0 : Cond.instantiable (hk_C 0) (hk_N 0) ∈ XW := xw 73 (by decide +kernel) rfl
theorem ini_0 : Cond.initialized (hk_C 0) ∈ XW := xw 32 (by decide +kernel) rfl
theorem lkX2_28 : Cond.methodLink RX2 28 yX1_init ∈ XW := xw 74 (by decide +kernel) rfl
theorem flX2_31 : fl RX2 31 1 5 := ⟨by decide, by decide, xw 100 (by decide +kernel) rfl⟩
theorem flX2_35 : fl RX2 35 1 6 := ⟨by decide, by decide, xw 106 (by decide +kernel) rfl⟩
theorem flX2_41 : fl RX2 41 1 11 := ⟨by decide, by decide, xw 121 (by decide +kernel) rfl⟩
theorem flX2_44 : fl RX2 44 1 12 := ⟨by decide, by decide, xw 123 (by decide +kernel) rfl⟩
theorem flX2_47 : fl RX2 47 1 4 := ⟨by decide, by decide, xw 99 (by decide +kernel) rfl⟩
theorem flX2_50 : fl RX2 50 1 7 := ⟨by decide, by decide, xw 110 (by decide +kernel) rfl⟩
theorem lkX2_54 : Cond.methodLink RX2 54 yX2_child ∈ XW := xw 644 (by decide +kernel) rfl
theorem lkX2_58 : Cond.methodLink RX2 58 yX2_placeOf ∈ XW := xw 656 (by decide +kernel) rfl
/-! BrailleDesk$Element.<init> -/
theorem tX2_init {G : gG} (a0 : Nat) (a1 : Int32) (a2 : Int32) (a3 : (Option Nat)) (h : hp) (Q : hQ) (hF : okB (fX2_init a0 a1 a2 a3 h) (pH gU Q)) : gS G mX2_init 2 7 316 [sr (some a0), si a1, si a2, sr a3] h Q := by
  delta fX2_init at hF
  refine gS_at [some (sr (some a0)), some (si a1), some (si a2), some (sr a3)] pl_X2 rfl (Nat.le_of_ble_eq_true rfl) rfl ?_
  refine v_aload_n (pc := 0) (i := 0) dX2_init_0 rfl rfl ?_
  refine v_objI (pc := 1) dX2_init_1 lkX2_3 oi_c oi_d (Nat.le_of_ble_eq_true rfl) (by decide) ?_
  refine v_aload_n (pc := 4) (i := 0) dX2_init_4 rfl rfl ?_
  refine v_iload_n (pc := 5) (i := 1) dX2_init_5 rfl rfl ?_
  refine s_putI (pc := 6) dX2_init_6 flX2_9 (Or.inr ⟨rfl, rfl, rfl⟩) rfl hF (fun h1 hF => ?_)
  refine v_aload_n (pc := 9) (i := 0) dX2_init_9 rfl rfl ?_
  refine v_iload_n (pc := 10) (i := 2) dX2_init_10 rfl rfl ?_
  refine s_putI (pc := 11) dX2_init_11 flX2_15 (Or.inr ⟨rfl, rfl, rfl⟩) rfl hF (fun h2 hF => ?_)
  refine v_aload_n (pc := 14) (i := 0) dX2_init_14 rfl rfl ?_
  refine v_aload_n (pc := 15) (i := 3) dX2_init_15 rfl rfl ?_
  refine s_putR (pc := 16) dX2_init_16 flX2_18 (Or.inr ⟨rfl, rfl, rfl⟩) rfl hF (fun h3 hF => ?_)
  refine v_aload_n (pc := 19) (i := 0) dX2_init_19 rfl rfl ?_
  refine v_bipush (pc := 20) (v := (10 : Int32)) dX2_init_20 rfl ?_
  refine v_newA (pc := 22) (kd := 22) (ci := 1) (t := 2) (k := 6) (n := 306) (len := 10) dX2_init_22 (Or.inl ⟨rfl, rfl, rfl⟩) ccX2_10 rfl (by decide) ?_
  refine s_putR (pc := 25) dX2_init_25 flX2_22 (Or.inr ⟨rfl, rfl, rfl⟩) rfl hF (fun h4 hF => ?_)
  refine v_aload_n (pc := 28) (i := 0) dX2_init_28 rfl rfl ?_
  refine v_new (pc := 29) (ci := 0) (k := 5) (n := 304) dX2_init_29 (by decide) ccX2_26 ins_0 ini_0 ?_
  refine v_dup (pc := 32) dX2_init_32 rfl ?_
  refine v_bipush (pc := 33) (v := (12 : Int32)) dX2_init_33 rfl ?_
  refine ch_I (pc := 35) (as := [si (12 : Int32)]) (st := [sr (some (hN h4)), sr (some a0)]) (N := mX1_init) (k := 4) (n := 204) (k1 := 1) (n1 := 100) dX2_init_35 lkX2_28 caX1_init ciX1_init rfl rfl rfl (fun Q1 hq => tX1_init (hN h4) (12 : Int32) (wN h4 (1, 0)) Q1 hq) ⟨by decide, by decide⟩ (Nat.le_of_ble_eq_true rfl) rfl hF (fun x5 h6 hF => ?_)
  refine s_putR (pc := 38) dX2_init_38 flX2_31 (Or.inr ⟨rfl, rfl, rfl⟩) rfl hF (fun h7 hF => ?_)
  refine v_aload_n (pc := 41) (i := 0) dX2_init_41 rfl rfl ?_
  refine v_new (pc := 42) (ci := 0) (k := 3) (n := 202) dX2_init_42 (by decide) ccX2_26 ins_0 ini_0 ?_
  refine v_dup (pc := 45) dX2_init_45 rfl ?_
  refine v_iload_n (pc := 46) (i := 2) dX2_init_46 rfl rfl ?_
  refine v_iconst (pc := 47) (v := (4 : Int32)) dX2_init_47 rfl ?_
  refine mg (X := fun q8 => gV G mX2_init 2 Q 57 [some (sr (some a0)), none, some (si a2), none] [si q8, sr (some (hN h7)), sr (some (hN h7)), sr (some a0)] (3) (202) (wN h7 (1, 0))) hF (fun _ hj9 hF => ?_) (fun q8 hF => ?_)
  · refine v_icmp_ne (pc := 48) 56 dX2_init_48 rfl (fun hc => ?_) (fun hc => ?_)
    · replace hF := (okB_if hF).2 hc
      refine v_iconst (pc := 56) (v := (0 : Int32)) dX2_init_56 rfl ?_
      exact v_lle [some (sr (some a0)), none, some (si a2), none] ⟨rfl, rfl, trivial⟩ (hj9 (0 : Int32) (okB_some hF))
    replace hF := (okB_if hF).1 hc
    refine v_bipush (pc := 51) (v := (12 : Int32)) dX2_init_51 rfl ?_
    refine v_goto (pc := 53) 57 dX2_init_53 rfl ?_
    exact v_lle [some (sr (some a0)), none, some (si a2), none] ⟨rfl, rfl, trivial⟩ (hj9 (12 : Int32) (okB_some hF))
  refine ch_I (pc := 57) (as := [si q8]) (st := [sr (some (hN h7)), sr (some a0)]) (N := mX1_init) (k := 2) (n := 102) (k1 := 1) (n1 := 100) dX2_init_57 lkX2_28 caX1_init ciX1_init rfl rfl rfl (fun Q1 hq => tX1_init (hN h7) q8 (wN h7 (1, 0)) Q1 hq) ⟨by decide, by decide⟩ (Nat.le_of_ble_eq_true rfl) rfl hF (fun x10 h11 hF => ?_)
  refine s_putR (pc := 60) dX2_init_60 flX2_35 (Or.inr ⟨rfl, rfl, rfl⟩) rfl hF (fun h12 hF => ?_)
  refine v_aload_n (pc := 63) (i := 0) dX2_init_63 rfl rfl ?_
  refine v_iconst (pc := 64) (v := (-1 : Int32)) dX2_init_64 rfl ?_
  refine s_putI (pc := 65) dX2_init_65 flX2_38 (Or.inl rfl) rfl hF (fun h13 hF => ?_)
  refine v_aload_n (pc := 68) (i := 0) dX2_init_68 rfl rfl ?_
  refine v_iconst (pc := 69) (v := (1 : Int32)) dX2_init_69 rfl ?_
  refine s_putI (pc := 70) dX2_init_70 flX2_41 (Or.inl rfl) rfl hF (fun h14 hF => ?_)
  refine v_aload_n (pc := 73) (i := 0) dX2_init_73 rfl rfl ?_
  refine v_new (pc := 74) (ci := 0) (k := 1) (n := 100) dX2_init_74 (by decide) ccX2_26 ins_0 ini_0 ?_
  refine v_dup (pc := 77) dX2_init_77 rfl ?_
  refine v_iload_n (pc := 78) (i := 2) dX2_init_78 rfl rfl ?_
  refine v_bipush (pc := 79) (v := (7 : Int32)) dX2_init_79 rfl ?_
  refine mg (X := fun q15 => gV G mX2_init 2 Q 90 [none, none, none, none] [si q15, sr (some (hN h14)), sr (some (hN h14)), sr (some a0)] (1) (100) (wN h14 (1, 0))) hF (fun _ hj16 hF => ?_) (fun q15 hF => ?_)
  · refine v_icmp_ne (pc := 81) 89 dX2_init_81 rfl (fun hc => ?_) (fun hc => ?_)
    · replace hF := (okB_if hF).2 hc
      refine v_iconst (pc := 89) (v := (0 : Int32)) dX2_init_89 rfl ?_
      exact v_lle [none, none, none, none] trivial (hj16 (0 : Int32) (okB_some hF))
    replace hF := (okB_if hF).1 hc
    refine v_bipush (pc := 84) (v := (80 : Int32)) dX2_init_84 rfl ?_
    refine v_goto (pc := 86) 90 dX2_init_86 rfl ?_
    exact v_lle [none, none, none, none] trivial (hj16 (80 : Int32) (okB_some hF))
  refine ch_I (pc := 90) (as := [si q15]) (st := [sr (some (hN h14)), sr (some a0)]) (N := mX1_init) (k := 0) (n := 0) (k1 := 1) (n1 := 100) dX2_init_90 lkX2_28 caX1_init ciX1_init rfl rfl rfl (fun Q1 hq => tX1_init (hN h14) q15 (wN h14 (1, 0)) Q1 hq) ⟨by decide, by decide⟩ (Nat.le_of_ble_eq_true rfl) rfl hF (fun x17 h18 hF => ?_)
  refine s_putR (pc := 93) dX2_init_93 flX2_44 (Or.inr ⟨rfl, rfl, rfl⟩) rfl hF (fun h19 hF => ?_)
  exact v_ret (pc := 96) dX2_init_96 rfl (okr hF fun q => q)
/-! BrailleDesk$Element.size -/
theorem tX2_size {G : gG} (a0 : Nat) (h : hp) (Q : hQ) (hF : okB (fX2_size a0 h) (pP gI Q h)) : gS G mX2_size 0 0 0 [sr (some a0)] h Q := by
  delta fX2_size at hF
  refine gS_at [some (sr (some a0))] pl_X2 rfl (Nat.le_of_ble_eq_true rfl) rfl ?_
  refine v_aload_n (pc := 0) (i := 0) dX2_size_0 rfl rfl ?_
  refine s_getI (pc := 1) dX2_size_1 flX2_47 rfl hF (fun x1 hF => ?_)
  exact v_iret (pc := 4) dX2_size_4 rfl rfl (okr hF fun q => q)
/-! BrailleDesk$Element.child -/
theorem tX2_child {G : gG} (a0 : Nat) (a1 : Int32) (h : hp) (Q : hQ) (hF : okB (fX2_child a0 a1 h) (pP gR Q h)) : gS G mX2_child 0 0 0 [sr (some a0), si a1] h Q := by
  delta fX2_child at hF
  refine gS_at [some (sr (some a0)), some (si a1)] pl_X2 rfl (Nat.le_of_ble_eq_true rfl) rfl ?_
  refine v_iload_n (pc := 0) (i := 1) dX2_child_0 rfl rfl ?_
  refine v_if_lt (pc := 1) 30 dX2_child_1 rfl (fun hc => ?_) (fun hc => ?_)
  · replace hF := (okB_if hF).1 hc
    refine v_null (pc := 30) dX2_child_30 ?_
    exact v_aret (pc := 31) dX2_child_31 rfl (Or.inl ⟨_, rfl⟩) (okr hF fun q => q)
  replace hF := (okB_if hF).2 hc
  refine v_iload_n (pc := 4) (i := 1) dX2_child_4 rfl rfl ?_
  refine v_aload_n (pc := 5) (i := 0) dX2_child_5 rfl rfl ?_
  refine s_getI (pc := 6) dX2_child_6 flX2_47 rfl hF (fun x1 hF => ?_)
  refine v_icmp_ge (pc := 9) 30 dX2_child_9 rfl (fun hc => ?_) (fun hc => ?_)
  · replace hF := (okB_if hF).1 hc
    refine v_null (pc := 30) dX2_child_30 ?_
    exact v_aret (pc := 31) dX2_child_31 rfl (Or.inl ⟨_, rfl⟩) (okr hF fun q => q)
  replace hF := (okB_if hF).2 hc
  refine v_iload_n (pc := 12) (i := 1) dX2_child_12 rfl rfl ?_
  refine v_aload_n (pc := 13) (i := 0) dX2_child_13 rfl rfl ?_
  refine s_getR (pc := 14) dX2_child_14 flX2_22 rfl hF (fun x2 hF => ?_)
  refine s_alen (pc := 17) dX2_child_17 hF (fun x3 hF => ?_)
  refine v_icmp_ge (pc := 18) 30 dX2_child_18 rfl (fun hc => ?_) (fun hc => ?_)
  · replace hF := (okB_if hF).1 hc
    refine v_null (pc := 30) dX2_child_30 ?_
    exact v_aret (pc := 31) dX2_child_31 rfl (Or.inl ⟨_, rfl⟩) (okr hF fun q => q)
  replace hF := (okB_if hF).2 hc
  refine v_aload_n (pc := 21) (i := 0) dX2_child_21 rfl rfl ?_
  refine s_getR (pc := 22) dX2_child_22 flX2_22 rfl hF (fun x4 hF => ?_)
  refine v_iload_n (pc := 25) (i := 1) dX2_child_25 rfl rfl ?_
  refine s_aald22 (pc := 26) dX2_child_26 hF (fun x5 hF => ?_)
  refine v_goto (pc := 27) 31 dX2_child_27 rfl ?_
  exact v_aret (pc := 31) dX2_child_31 rfl (Or.inl ⟨_, rfl⟩) (okr hF fun q => q)
/-! BrailleDesk$Element.shownChild -/
theorem tX2_shownChild {G : gG} (a0 : Nat) (a1 : Int32) (h : hp) (Q : hQ) (hF : okB (fX2_shownChild a0 a1 h) (pP gR Q h)) : gS G mX2_shownChild 0 0 0 [sr (some a0), si a1] h Q := by
  delta fX2_shownChild at hF
  refine gS_at [some (sr (some a0)), some (si a1), none] pl_X2 rfl (Nat.le_of_ble_eq_true rfl) rfl ?_
  refine v_iload_n (pc := 0) (i := 1) dX2_shownChild_0 rfl rfl ?_
  refine mg (X := fun q1 => gV G mX2_shownChild 0 Q 31 [none, none, none] [sr q1] (0) (0) h) hF (fun _ hj2 hF => ?_) (fun q1 hF => ?_)
  · refine v_if_lt (pc := 1) 30 dX2_shownChild_1 rfl (fun hc => ?_) (fun hc => ?_)
    · replace hF := (okB_if hF).1 hc
      refine v_null (pc := 30) dX2_shownChild_30 ?_
      exact v_lle [none, none, none] trivial (hj2 (none : Option Nat) (okB_some hF))
    replace hF := (okB_if hF).2 hc
    refine v_iload_n (pc := 4) (i := 1) dX2_shownChild_4 rfl rfl ?_
    refine v_aload_n (pc := 5) (i := 0) dX2_shownChild_5 rfl rfl ?_
    refine s_getI (pc := 6) dX2_shownChild_6 flX2_47 rfl hF (fun x3 hF => ?_)
    refine v_icmp_ge (pc := 9) 30 dX2_shownChild_9 rfl (fun hc => ?_) (fun hc => ?_)
    · replace hF := (okB_if hF).1 hc
      refine v_null (pc := 30) dX2_shownChild_30 ?_
      exact v_lle [none, none, none] trivial (hj2 (none : Option Nat) (okB_some hF))
    replace hF := (okB_if hF).2 hc
    refine v_iload_n (pc := 12) (i := 1) dX2_shownChild_12 rfl rfl ?_
    refine v_aload_n (pc := 13) (i := 0) dX2_shownChild_13 rfl rfl ?_
    refine s_getR (pc := 14) dX2_shownChild_14 flX2_22 rfl hF (fun x4 hF => ?_)
    refine s_alen (pc := 17) dX2_shownChild_17 hF (fun x5 hF => ?_)
    refine v_icmp_ge (pc := 18) 30 dX2_shownChild_18 rfl (fun hc => ?_) (fun hc => ?_)
    · replace hF := (okB_if hF).1 hc
      refine v_null (pc := 30) dX2_shownChild_30 ?_
      exact v_lle [none, none, none] trivial (hj2 (none : Option Nat) (okB_some hF))
    replace hF := (okB_if hF).2 hc
    refine v_aload_n (pc := 21) (i := 0) dX2_shownChild_21 rfl rfl ?_
    refine s_getR (pc := 22) dX2_shownChild_22 flX2_22 rfl hF (fun x6 hF => ?_)
    refine v_iload_n (pc := 25) (i := 1) dX2_shownChild_25 rfl rfl ?_
    refine s_aald22 (pc := 26) dX2_shownChild_26 hF (fun x7 hF => ?_)
    refine v_goto (pc := 27) 31 dX2_shownChild_27 rfl ?_
    exact v_lle [none, none, none] trivial (hj2 x7 (okB_some hF))
  refine v_astore_n (pc := 31) (i := 2) [none, none, some (sr q1)] dX2_shownChild_31 rfl (by decide) rfl rfl ?_
  refine v_aload_n (pc := 32) (i := 2) dX2_shownChild_32 rfl rfl ?_
  refine s_ifnull (pc := 33) 43 dX2_shownChild_33 rfl hF (fun hF => ?_) (fun hF => ?_)
  · refine v_null (pc := 43) dX2_shownChild_43 ?_
    refine v_goto (pc := 44) 48 dX2_shownChild_44 rfl ?_
    exact v_aret (pc := 48) dX2_shownChild_48 rfl (Or.inl ⟨_, rfl⟩) (okr hF fun q => q)
  refine v_aload_n (pc := 36) (i := 2) dX2_shownChild_36 rfl rfl ?_
  refine s_getI (pc := 37) dX2_shownChild_37 flX2_50 rfl hF (fun x8 hF => ?_)
  refine v_if_eq (pc := 40) 47 dX2_shownChild_40 rfl (fun hc => ?_) (fun hc => ?_)
  · replace hF := (okB_if hF).1 hc
    refine v_aload_n (pc := 47) (i := 2) dX2_shownChild_47 rfl rfl ?_
    exact v_aret (pc := 48) dX2_shownChild_48 rfl (Or.inl ⟨_, rfl⟩) (okr hF fun q => q)
  replace hF := (okB_if hF).2 hc
  refine v_null (pc := 43) dX2_shownChild_43 ?_
  refine v_goto (pc := 44) 48 dX2_shownChild_44 rfl ?_
  exact v_aret (pc := 48) dX2_shownChild_48 rfl (Or.inl ⟨_, rfl⟩) (okr hF fun q => q)
/-! BrailleDesk$Element.placeOf -/
theorem lX2_placeOf_2 {G : gG} {Q : hQ} {P : (Int32 ⊕ Unit) → Prop} {k n : Nat} (c0 : Nat) (c1 : (Option Nat)) (h : hp) (hJ : ∀ q : Unit, P (.inr q) → gV G mX2_placeOf 1 Q 27 [none, none, none] [] (k) (n) h) (hR : ∀ r : Int32, P (.inl (r)) → (pP gI Q h) r) : ∀ (fu : Nat) (a : Int32), okB (itr (fX2_placeOf_B2 c0 c1 h) fu a) P → gV G mX2_placeOf 1 Q 2 [some (sr (some c0)), some (sr c1), some (si a)] [] (k) (n) h :=
  lpg (X := fun (a : Int32) => gV G mX2_placeOf 1 Q 2 [some (sr (some c0)), some (sr c1), some (si a)] [] (k) (n) h) (fun a P2 hL hE hF => by
    delta fX2_placeOf_B2 at hF
    refine v_iload_n (pc := 2) (i := 2) dX2_placeOf_2 rfl rfl ?_
    refine v_aload_n (pc := 3) (i := 0) dX2_placeOf_3 rfl rfl ?_
    refine s_getI (pc := 4) dX2_placeOf_4 flX2_47 rfl hF (fun x1 hF => ?_)
    refine v_icmp_ge (pc := 7) 27 dX2_placeOf_7 rfl (fun hc => ?_) (fun hc => ?_)
    · replace hF := (okB_if hF).1 hc
      exact v_lle [none, none, none] trivial (hJ () (hE _ (okB_some hF)))
    replace hF := (okB_if hF).2 hc
    refine v_aload_n (pc := 10) (i := 0) dX2_placeOf_10 rfl rfl ?_
    refine v_iload_n (pc := 11) (i := 2) dX2_placeOf_11 rfl rfl ?_
    refine cp_V (pc := 12) gR (as := [si a]) (st := []) (ci := 1) (N := mX2_child) (k := k) (n := n) (k1 := 0) (n1 := 0) dX2_placeOf_12 lkX2_54 caX2_child cvX2_child rfl (by decide) rfl (fun b Q1 hq => tX2_child b a h Q1 hq) ⟨by decide, by decide⟩ (Nat.le_of_ble_eq_true rfl) rfl hF (fun x2 hF => ?_)
    show gV G mX2_placeOf 1 Q 15 [some (sr (some c0)), some (sr c1), some (si a)] [sr x2] (k) (n) h
    refine v_aload_n (pc := 15) (i := 1) dX2_placeOf_15 rfl rfl ?_
    refine v_acmp_ne (pc := 16) 21 dX2_placeOf_16 rfl (fun hc => ?_) (fun hc => ?_)
    · replace hF := (okB_if hF).2 hc
      refine v_iinc (pc := 21) (i := 2) (a + (1 : Int32)) [some (sr (some c0)), some (sr c1), some (si (a + (1 : Int32)))] dX2_placeOf_21 rfl rfl rfl rfl ?_
      refine v_goto (pc := 24) 2 dX2_placeOf_24 rfl ?_
      exact v_lle [some (sr (some c0)), some (sr c1), some (si (a + (1 : Int32)))] ⟨rfl, rfl, rfl, trivial⟩ (hL (a + (1 : Int32)) (okB_some hF))
    replace hF := (okB_if hF).1 hc
    refine v_iload_n (pc := 19) (i := 2) dX2_placeOf_19 rfl rfl ?_
    exact v_iret (pc := 20) dX2_placeOf_20 rfl rfl (hR _ (hE _ (okB_some hF))))
theorem tX2_placeOf {G : gG} (a0 : Nat) (a1 : (Option Nat)) (h : hp) (Q : hQ) (hF : okB (fX2_placeOf a0 a1 h) (pP gI Q h)) : gS G mX2_placeOf 1 0 0 [sr (some a0), sr a1] h Q := by
  delta fX2_placeOf at hF
  refine gS_at [some (sr (some a0)), some (sr a1), none] pl_X2 rfl (Nat.le_of_ble_eq_true rfl) rfl ?_
  refine v_iconst (pc := 0) (v := (0 : Int32)) dX2_placeOf_0 rfl ?_
  refine v_istore_n (pc := 1) (i := 2) [some (sr (some a0)), some (sr a1), some (si (0 : Int32))] dX2_placeOf_1 rfl (by decide) rfl rfl ?_
  refine mgR (X := fun q1 => gV G mX2_placeOf 1 Q 27 [none, none, none] [] (0) (0) h) hF (fun _ hj2 hr2 hF => v_lle [some (sr (some a0)), some (sr a1), some (si (0 : Int32))] ⟨rfl, rfl, rfl, trivial⟩ (lX2_placeOf_2 a0 a1 h hj2 (fun _ hp => (hr2 _ hp)) FU (0 : Int32) hF)) (fun q1 hF => ?_)
  refine v_iconst (pc := 27) (v := (-1 : Int32)) dX2_placeOf_27 rfl ?_
  exact v_iret (pc := 28) dX2_placeOf_28 rfl rfl (okr hF fun q => q)
/-! BrailleDesk$Element.canHave -/
theorem tX2_canHave {G : gG} (a0 : Nat) (a1 : Int32) (h : hp) (Q : hQ) (hF : okB (fX2_canHave a0 a1 h) (pP gI Q h)) : gS G mX2_canHave 0 0 0 [sr (some a0), si a1] h Q := by
  delta fX2_canHave at hF
  refine gS_at [some (sr (some a0)), some (si a1)] pl_X2 rfl (Nat.le_of_ble_eq_true rfl) rfl ?_
  refine v_aload_n (pc := 0) (i := 0) dX2_canHave_0 rfl rfl ?_
  refine s_getI (pc := 1) dX2_canHave_1 flX2_15 rfl hF (fun x1 hF => ?_)
  by_cases hc0 : x1 = (0 : Int32)
  · replace hF := (okB_if hF).1 hc0
    refine v_tableIn (pc := 4) 52 dX2_canHave_4 (by rw [hc0]; first | done | decide) (by rw [hc0]; first | done | decide) (by rw [hc0]; first | done | rfl) rfl ?_
    refine v_iload_n (pc := 52) (i := 1) dX2_canHave_52 rfl rfl ?_
    refine v_bipush (pc := 53) (v := (6 : Int32)) dX2_canHave_53 rfl ?_
    refine v_icmp_eq (pc := 55) 62 dX2_canHave_55 rfl (fun hc => ?_) (fun hc => ?_)
    · replace hF := (okB_if hF).1 hc
      refine v_iconst (pc := 62) (v := (0 : Int32)) dX2_canHave_62 rfl ?_
      exact v_iret (pc := 63) dX2_canHave_63 rfl rfl (okr hF fun q => q)
    replace hF := (okB_if hF).2 hc
    refine v_iconst (pc := 58) (v := (1 : Int32)) dX2_canHave_58 rfl ?_
    refine v_goto (pc := 59) 63 dX2_canHave_59 rfl ?_
    exact v_iret (pc := 63) dX2_canHave_63 rfl rfl (okr hF fun q => q)
  replace hF := (okB_if hF).2 hc0
  by_cases hc5 : x1 = (5 : Int32)
  · replace hF := (okB_if hF).1 hc5
    refine v_tableIn (pc := 4) 64 dX2_canHave_4 (by rw [hc5]; first | done | decide) (by rw [hc5]; first | done | decide) (by rw [hc5]; first | done | rfl) rfl ?_
    refine v_iload_n (pc := 64) (i := 1) dX2_canHave_64 rfl rfl ?_
    refine v_bipush (pc := 65) (v := (6 : Int32)) dX2_canHave_65 rfl ?_
    refine v_icmp_ne (pc := 67) 74 dX2_canHave_67 rfl (fun hc => ?_) (fun hc => ?_)
    · replace hF := (okB_if hF).2 hc
      refine v_iconst (pc := 74) (v := (0 : Int32)) dX2_canHave_74 rfl ?_
      exact v_iret (pc := 75) dX2_canHave_75 rfl rfl (okr hF fun q => q)
    replace hF := (okB_if hF).1 hc
    refine v_iconst (pc := 70) (v := (1 : Int32)) dX2_canHave_70 rfl ?_
    refine v_goto (pc := 71) 75 dX2_canHave_71 rfl ?_
    exact v_iret (pc := 75) dX2_canHave_75 rfl rfl (okr hF fun q => q)
  replace hF := (okB_if hF).2 hc5
  by_cases hc6 : x1 = (6 : Int32)
  · replace hF := (okB_if hF).1 hc6
    refine v_tableIn (pc := 4) 76 dX2_canHave_4 (by rw [hc6]; first | done | decide) (by rw [hc6]; first | done | decide) (by rw [hc6]; first | done | rfl) rfl ?_
    refine v_iload_n (pc := 76) (i := 1) dX2_canHave_76 rfl rfl ?_
    refine v_iconst (pc := 77) (v := (1 : Int32)) dX2_canHave_77 rfl ?_
    refine v_icmp_eq (pc := 78) 96 dX2_canHave_78 rfl (fun hc => ?_) (fun hc => ?_)
    · replace hF := (okB_if hF).1 hc
      refine v_iconst (pc := 96) (v := (1 : Int32)) dX2_canHave_96 rfl ?_
      refine v_goto (pc := 97) 101 dX2_canHave_97 rfl ?_
      exact v_iret (pc := 101) dX2_canHave_101 rfl rfl (okr hF fun q => q)
    replace hF := (okB_if hF).2 hc
    refine v_iload_n (pc := 81) (i := 1) dX2_canHave_81 rfl rfl ?_
    refine v_iconst (pc := 82) (v := (2 : Int32)) dX2_canHave_82 rfl ?_
    refine v_icmp_eq (pc := 83) 96 dX2_canHave_83 rfl (fun hc => ?_) (fun hc => ?_)
    · replace hF := (okB_if hF).1 hc
      refine v_iconst (pc := 96) (v := (1 : Int32)) dX2_canHave_96 rfl ?_
      refine v_goto (pc := 97) 101 dX2_canHave_97 rfl ?_
      exact v_iret (pc := 101) dX2_canHave_101 rfl rfl (okr hF fun q => q)
    replace hF := (okB_if hF).2 hc
    refine v_iload_n (pc := 86) (i := 1) dX2_canHave_86 rfl rfl ?_
    refine v_iconst (pc := 87) (v := (3 : Int32)) dX2_canHave_87 rfl ?_
    refine v_icmp_eq (pc := 88) 96 dX2_canHave_88 rfl (fun hc => ?_) (fun hc => ?_)
    · replace hF := (okB_if hF).1 hc
      refine v_iconst (pc := 96) (v := (1 : Int32)) dX2_canHave_96 rfl ?_
      refine v_goto (pc := 97) 101 dX2_canHave_97 rfl ?_
      exact v_iret (pc := 101) dX2_canHave_101 rfl rfl (okr hF fun q => q)
    replace hF := (okB_if hF).2 hc
    refine v_iload_n (pc := 91) (i := 1) dX2_canHave_91 rfl rfl ?_
    refine v_iconst (pc := 92) (v := (4 : Int32)) dX2_canHave_92 rfl ?_
    refine v_icmp_ne (pc := 93) 100 dX2_canHave_93 rfl (fun hc => ?_) (fun hc => ?_)
    · replace hF := (okB_if hF).2 hc
      refine v_iconst (pc := 100) (v := (0 : Int32)) dX2_canHave_100 rfl ?_
      exact v_iret (pc := 101) dX2_canHave_101 rfl rfl (okr hF fun q => q)
    replace hF := (okB_if hF).1 hc
    refine v_iconst (pc := 96) (v := (1 : Int32)) dX2_canHave_96 rfl ?_
    refine v_goto (pc := 97) 101 dX2_canHave_97 rfl ?_
    exact v_iret (pc := 101) dX2_canHave_101 rfl rfl (okr hF fun q => q)
  replace hF := (okB_if hF).2 hc6
  by_cases hc7 : x1 = (7 : Int32)
  · replace hF := (okB_if hF).1 hc7
    refine v_tableIn (pc := 4) 52 dX2_canHave_4 (by rw [hc7]; first | done | decide) (by rw [hc7]; first | done | decide) (by rw [hc7]; first | done | rfl) rfl ?_
    refine v_iload_n (pc := 52) (i := 1) dX2_canHave_52 rfl rfl ?_
    refine v_bipush (pc := 53) (v := (6 : Int32)) dX2_canHave_53 rfl ?_
    refine v_icmp_eq (pc := 55) 62 dX2_canHave_55 rfl (fun hc => ?_) (fun hc => ?_)
    · replace hF := (okB_if hF).1 hc
      refine v_iconst (pc := 62) (v := (0 : Int32)) dX2_canHave_62 rfl ?_
      exact v_iret (pc := 63) dX2_canHave_63 rfl rfl (okr hF fun q => q)
    replace hF := (okB_if hF).2 hc
    refine v_iconst (pc := 58) (v := (1 : Int32)) dX2_canHave_58 rfl ?_
    refine v_goto (pc := 59) 63 dX2_canHave_59 rfl ?_
    exact v_iret (pc := 63) dX2_canHave_63 rfl rfl (okr hF fun q => q)
  replace hF := (okB_if hF).2 hc7
  refine v_tableD (pc := 4) 102 dX2_canHave_4 (fun i hi hx => ?_) rfl ?_
  · have hi : i = 0 ∨ i = 1 ∨ i = 2 ∨ i = 3 ∨ i = 4 ∨ i = 5 ∨ i = 6 ∨ i = 7 := by omega
    rcases hi with rfl | rfl | rfl | rfl | rfl | rfl | rfl | rfl
    · exact absurd hx (fun e => hc0 (Int32.toInt_inj.mp (e.trans (by decide))))
    · rfl
    · rfl
    · rfl
    · rfl
    · exact absurd hx (fun e => hc5 (Int32.toInt_inj.mp (e.trans (by decide))))
    · exact absurd hx (fun e => hc6 (Int32.toInt_inj.mp (e.trans (by decide))))
    · exact absurd hx (fun e => hc7 (Int32.toInt_inj.mp (e.trans (by decide))))
  refine v_iconst (pc := 102) (v := (0 : Int32)) dX2_canHave_102 rfl ?_
  exact v_iret (pc := 103) dX2_canHave_103 rfl rfl (okr hF fun q => q)
/-! BrailleDesk$Element.insert -/
theorem lX2_insert_37 {G : gG} {Q : hQ} {P : hp → Prop} {k n : Nat} (c0 : Nat) (c1 : (Option Nat)) (c2 : Int32) (hJ : ∀ q : hp, P q → gV G mX2_insert 0 Q 62 [some (sr (some c0)), some (sr c1), some (si c2), none] [] (k) (n) q) : ∀ (fu : Nat) (a : (Int32 × hp)), okB (itr (fX2_insert_B37 c0 c1 c2) fu a) P → gV G mX2_insert 0 Q 37 [some (sr (some c0)), some (sr c1), some (si c2), some (si a.1)] [] (k) (n) a.2 :=
  lpg (X := fun (a : (Int32 × hp)) => gV G mX2_insert 0 Q 37 [some (sr (some c0)), some (sr c1), some (si c2), some (si a.1)] [] (k) (n) a.2) (fun a P2 hL hE hF => by
    delta fX2_insert_B37 at hF
    refine v_iload_n (pc := 37) (i := 3) dX2_insert_37 rfl rfl ?_
    refine v_iload_n (pc := 38) (i := 2) dX2_insert_38 rfl rfl ?_
    refine v_icmp_le (pc := 39) 62 dX2_insert_39 rfl (fun hc => ?_) (fun hc => ?_)
    · replace hF := (okB_if hF).1 hc
      exact v_lle [some (sr (some c0)), some (sr c1), some (si c2), none] ⟨rfl, rfl, rfl, trivial⟩ (hJ a.2 (hE _ (okB_some hF)))
    replace hF := (okB_if hF).2 hc
    refine v_aload_n (pc := 42) (i := 0) dX2_insert_42 rfl rfl ?_
    refine s_getR (pc := 43) dX2_insert_43 flX2_22 rfl hF (fun x1 hF => ?_)
    refine v_iload_n (pc := 46) (i := 3) dX2_insert_46 rfl rfl ?_
    refine v_aload_n (pc := 47) (i := 0) dX2_insert_47 rfl rfl ?_
    refine s_getR (pc := 48) dX2_insert_48 flX2_22 rfl hF (fun x2 hF => ?_)
    refine v_iload_n (pc := 51) (i := 3) dX2_insert_51 rfl rfl ?_
    refine v_iconst (pc := 52) (v := (1 : Int32)) dX2_insert_52 rfl ?_
    refine v_isub (pc := 53) dX2_insert_53 ?_
    refine s_aald22 (pc := 54) dX2_insert_54 hF (fun x3 hF => ?_)
    refine s_aast22 (pc := 55) dX2_insert_55 hF (fun h4 hF => ?_)
    refine v_iinc (pc := 56) (i := 3) (a.1 + (-1 : Int32)) [some (sr (some c0)), some (sr c1), some (si c2), some (si (a.1 + (-1 : Int32)))] dX2_insert_56 rfl rfl rfl rfl ?_
    refine v_goto (pc := 59) 37 dX2_insert_59 rfl ?_
    exact v_lle [some (sr (some c0)), some (sr c1), some (si c2), some (si (a.1 + (-1 : Int32)))] ⟨rfl, rfl, rfl, rfl, trivial⟩ (hL (a.1 + (-1 : Int32), h4) (okB_some hF)))
theorem tX2_insert {G : gG} (a0 : Nat) (a1 : (Option Nat)) (a2 : Int32) (h : hp) (Q : hQ) (hF : okB (fX2_insert a0 a1 a2 h) (pH gU Q)) : gS G mX2_insert 0 0 0 [sr (some a0), sr a1, si a2] h Q := by
  delta fX2_insert at hF
  refine gS_at [some (sr (some a0)), some (sr a1), some (si a2), none] pl_X2 rfl (Nat.le_of_ble_eq_true rfl) rfl ?_
  refine v_aload_n (pc := 0) (i := 0) dX2_insert_0 rfl rfl ?_
  refine s_getI (pc := 1) dX2_insert_1 flX2_47 rfl hF (fun x1 hF => ?_)
  refine v_if_lt (pc := 4) 31 dX2_insert_4 rfl (fun hc => ?_) (fun hc => ?_)
  · replace hF := (okB_if hF).1 hc
    exact v_ret (pc := 31) dX2_insert_31 rfl (okr hF fun q => q)
  replace hF := (okB_if hF).2 hc
  refine v_aload_n (pc := 7) (i := 0) dX2_insert_7 rfl rfl ?_
  refine s_getI (pc := 8) dX2_insert_8 flX2_47 rfl hF (fun x2 hF => ?_)
  refine v_aload_n (pc := 11) (i := 0) dX2_insert_11 rfl rfl ?_
  refine s_getR (pc := 12) dX2_insert_12 flX2_22 rfl hF (fun x3 hF => ?_)
  refine s_alen (pc := 15) dX2_insert_15 hF (fun x4 hF => ?_)
  refine v_icmp_ge (pc := 16) 31 dX2_insert_16 rfl (fun hc => ?_) (fun hc => ?_)
  · replace hF := (okB_if hF).1 hc
    exact v_ret (pc := 31) dX2_insert_31 rfl (okr hF fun q => q)
  replace hF := (okB_if hF).2 hc
  refine v_iload_n (pc := 19) (i := 2) dX2_insert_19 rfl rfl ?_
  refine v_if_lt (pc := 20) 31 dX2_insert_20 rfl (fun hc => ?_) (fun hc => ?_)
  · replace hF := (okB_if hF).1 hc
    exact v_ret (pc := 31) dX2_insert_31 rfl (okr hF fun q => q)
  replace hF := (okB_if hF).2 hc
  refine v_iload_n (pc := 23) (i := 2) dX2_insert_23 rfl rfl ?_
  refine v_aload_n (pc := 24) (i := 0) dX2_insert_24 rfl rfl ?_
  refine s_getI (pc := 25) dX2_insert_25 flX2_47 rfl hF (fun x5 hF => ?_)
  refine v_icmp_le (pc := 28) 32 dX2_insert_28 rfl (fun hc => ?_) (fun hc => ?_)
  · replace hF := (okB_if hF).1 hc
    refine v_aload_n (pc := 32) (i := 0) dX2_insert_32 rfl rfl ?_
    refine s_getI (pc := 33) dX2_insert_33 flX2_47 rfl hF (fun x6 hF => ?_)
    refine v_istore_n (pc := 36) (i := 3) [some (sr (some a0)), some (sr a1), some (si a2), some (si x6)] dX2_insert_36 rfl (by decide) rfl rfl ?_
    refine mg (X := fun q7 => gV G mX2_insert 0 Q 62 [some (sr (some a0)), some (sr a1), some (si a2), none] [] (0) (0) q7) hF (fun _ hj12 hF => v_lle [some (sr (some a0)), some (sr a1), some (si a2), some (si x6)] ⟨rfl, rfl, rfl, rfl, trivial⟩ (lX2_insert_37 a0 a1 a2 hj12 FU (x6, h) hF)) (fun q7 hF => ?_)
    refine v_aload_n (pc := 62) (i := 0) dX2_insert_62 rfl rfl ?_
    refine s_getR (pc := 63) dX2_insert_63 flX2_22 rfl hF (fun x8 hF => ?_)
    refine v_iload_n (pc := 66) (i := 2) dX2_insert_66 rfl rfl ?_
    refine v_aload_n (pc := 67) (i := 1) dX2_insert_67 rfl rfl ?_
    refine s_aast22 (pc := 68) dX2_insert_68 hF (fun h9 hF => ?_)
    refine v_aload_n (pc := 69) (i := 0) dX2_insert_69 rfl rfl ?_
    refine v_dup (pc := 70) dX2_insert_70 rfl ?_
    refine s_getI (pc := 71) dX2_insert_71 flX2_47 rfl hF (fun x10 hF => ?_)
    refine v_iconst (pc := 74) (v := (1 : Int32)) dX2_insert_74 rfl ?_
    refine v_iadd (pc := 75) dX2_insert_75 ?_
    refine s_putI (pc := 76) dX2_insert_76 flX2_47 (Or.inl rfl) rfl hF (fun h11 hF => ?_)
    exact v_ret (pc := 79) dX2_insert_79 rfl (okr hF fun q => q)
  replace hF := (okB_if hF).2 hc
  exact v_ret (pc := 31) dX2_insert_31 rfl (okr hF fun q => q)
/-! BrailleDesk$Element.takeOut -/
theorem lX2_takeOut_25 {G : gG} {Q : hQ} {P : hp → Prop} {k n : Nat} (c0 : Nat) (hJ : ∀ q : hp, P q → gV G mX2_takeOut 2 Q 55 [some (sr (some c0)), none, none, none] [] (k) (n) q) : ∀ (fu : Nat) (a : (Int32 × hp)), okB (itr (fX2_takeOut_B25 c0) fu a) P → gV G mX2_takeOut 2 Q 25 [some (sr (some c0)), none, none, some (si a.1)] [] (k) (n) a.2 :=
  lpg (X := fun (a : (Int32 × hp)) => gV G mX2_takeOut 2 Q 25 [some (sr (some c0)), none, none, some (si a.1)] [] (k) (n) a.2) (fun a P2 hL hE hF => by
    delta fX2_takeOut_B25 at hF
    refine v_iload_n (pc := 25) (i := 3) dX2_takeOut_25 rfl rfl ?_
    refine v_iconst (pc := 26) (v := (1 : Int32)) dX2_takeOut_26 rfl ?_
    refine v_iadd (pc := 27) dX2_takeOut_27 ?_
    refine v_aload_n (pc := 28) (i := 0) dX2_takeOut_28 rfl rfl ?_
    refine s_getI (pc := 29) dX2_takeOut_29 flX2_47 rfl hF (fun x1 hF => ?_)
    refine v_icmp_ge (pc := 32) 55 dX2_takeOut_32 rfl (fun hc => ?_) (fun hc => ?_)
    · replace hF := (okB_if hF).1 hc
      exact v_lle [some (sr (some c0)), none, none, none] ⟨rfl, trivial⟩ (hJ a.2 (hE _ (okB_some hF)))
    replace hF := (okB_if hF).2 hc
    refine v_aload_n (pc := 35) (i := 0) dX2_takeOut_35 rfl rfl ?_
    refine s_getR (pc := 36) dX2_takeOut_36 flX2_22 rfl hF (fun x2 hF => ?_)
    refine v_iload_n (pc := 39) (i := 3) dX2_takeOut_39 rfl rfl ?_
    refine v_aload_n (pc := 40) (i := 0) dX2_takeOut_40 rfl rfl ?_
    refine s_getR (pc := 41) dX2_takeOut_41 flX2_22 rfl hF (fun x3 hF => ?_)
    refine v_iload_n (pc := 44) (i := 3) dX2_takeOut_44 rfl rfl ?_
    refine v_iconst (pc := 45) (v := (1 : Int32)) dX2_takeOut_45 rfl ?_
    refine v_iadd (pc := 46) dX2_takeOut_46 ?_
    refine s_aald22 (pc := 47) dX2_takeOut_47 hF (fun x4 hF => ?_)
    refine s_aast22 (pc := 48) dX2_takeOut_48 hF (fun h5 hF => ?_)
    refine v_iinc (pc := 49) (i := 3) (a.1 + (1 : Int32)) [some (sr (some c0)), none, none, some (si (a.1 + (1 : Int32)))] dX2_takeOut_49 rfl rfl rfl rfl ?_
    refine v_goto (pc := 52) 25 dX2_takeOut_52 rfl ?_
    exact v_lle [some (sr (some c0)), none, none, some (si (a.1 + (1 : Int32)))] ⟨rfl, rfl, trivial⟩ (hL (a.1 + (1 : Int32), h5) (okB_some hF)))
theorem tX2_takeOut {G : gG} (a0 : Nat) (a1 : (Option Nat)) (h : hp) (Q : hQ) (hF : okB (fX2_takeOut a0 a1 h) (pH gU Q)) : gS G mX2_takeOut 2 0 0 [sr (some a0), sr a1] h Q := by
  delta fX2_takeOut at hF
  refine gS_at [some (sr (some a0)), some (sr a1), none, none] pl_X2 rfl (Nat.le_of_ble_eq_true rfl) rfl ?_
  refine v_aload_n (pc := 0) (i := 0) dX2_takeOut_0 rfl rfl ?_
  refine v_aload_n (pc := 1) (i := 1) dX2_takeOut_1 rfl rfl ?_
  refine cp_V (pc := 2) gI (as := [sr a1]) (st := []) (ci := 1) (N := mX2_placeOf) (k := 0) (n := 0) (k1 := 0) (n1 := 0) dX2_takeOut_2 lkX2_58 caX2_placeOf cvX2_placeOf rfl (by decide) rfl (fun b Q1 hq => tX2_placeOf b a1 h Q1 hq) ⟨by decide, by decide⟩ (Nat.le_of_ble_eq_true rfl) rfl hF (fun x1 hF => ?_)
  show gV G mX2_takeOut 2 Q 5 [some (sr (some a0)), some (sr a1), none, none] [si x1] (0) (0) h
  refine v_istore_n (pc := 5) (i := 2) [some (sr (some a0)), some (sr a1), some (si x1), none] dX2_takeOut_5 rfl (by decide) rfl rfl ?_
  refine v_iload_n (pc := 6) (i := 2) dX2_takeOut_6 rfl rfl ?_
  refine v_if_lt (pc := 7) 22 dX2_takeOut_7 rfl (fun hc => ?_) (fun hc => ?_)
  · replace hF := (okB_if hF).1 hc
    exact v_ret (pc := 22) dX2_takeOut_22 rfl (okr hF fun q => q)
  replace hF := (okB_if hF).2 hc
  refine v_aload_n (pc := 10) (i := 0) dX2_takeOut_10 rfl rfl ?_
  refine s_getI (pc := 11) dX2_takeOut_11 flX2_47 rfl hF (fun x2 hF => ?_)
  refine v_aload_n (pc := 14) (i := 0) dX2_takeOut_14 rfl rfl ?_
  refine s_getR (pc := 15) dX2_takeOut_15 flX2_22 rfl hF (fun x3 hF => ?_)
  refine s_alen (pc := 18) dX2_takeOut_18 hF (fun x4 hF => ?_)
  refine v_icmp_le (pc := 19) 23 dX2_takeOut_19 rfl (fun hc => ?_) (fun hc => ?_)
  · replace hF := (okB_if hF).1 hc
    refine v_iload_n (pc := 23) (i := 2) dX2_takeOut_23 rfl rfl ?_
    refine v_istore_n (pc := 24) (i := 3) [some (sr (some a0)), some (sr a1), some (si x1), some (si x1)] dX2_takeOut_24 rfl (by decide) rfl rfl ?_
    refine mg (X := fun q5 => gV G mX2_takeOut 2 Q 55 [some (sr (some a0)), none, none, none] [] (0) (0) q5) hF (fun _ hj8 hF => v_lle [some (sr (some a0)), none, none, some (si x1)] ⟨rfl, rfl, trivial⟩ (lX2_takeOut_25 a0 hj8 FU (x1, h) hF)) (fun q5 hF => ?_)
    refine v_aload_n (pc := 55) (i := 0) dX2_takeOut_55 rfl rfl ?_
    refine v_dup (pc := 56) dX2_takeOut_56 rfl ?_
    refine s_getI (pc := 57) dX2_takeOut_57 flX2_47 rfl hF (fun x6 hF => ?_)
    refine v_iconst (pc := 60) (v := (1 : Int32)) dX2_takeOut_60 rfl ?_
    refine v_isub (pc := 61) dX2_takeOut_61 ?_
    refine s_putI (pc := 62) dX2_takeOut_62 flX2_47 (Or.inl rfl) rfl hF (fun h7 hF => ?_)
    exact v_ret (pc := 65) dX2_takeOut_65 rfl (okr hF fun q => q)
  replace hF := (okB_if hF).2 hc
  exact v_ret (pc := 22) dX2_takeOut_22 rfl (okr hF fun q => q)
/-! BrailleDesk$Element.isWithin -/
theorem lX2_isWithin_2 {G : gG} {Q : hQ} {P : (Int32 ⊕ Unit) → Prop} {k n : Nat} (c1 : (Option Nat)) (h : hp) (hJ : ∀ q : Unit, P (.inr q) → gV G mX2_isWithin 0 Q 21 [none, none, none] [] (k) (n) h) (hR : ∀ r : Int32, P (.inl (r)) → (pP gI Q h) r) : ∀ (fu : Nat) (a : (Option Nat)), okB (itr (fX2_isWithin_B2 c1 h) fu a) P → gV G mX2_isWithin 0 Q 2 [none, some (sr c1), some (sr a)] [] (k) (n) h :=
  lpg (X := fun (a : (Option Nat)) => gV G mX2_isWithin 0 Q 2 [none, some (sr c1), some (sr a)] [] (k) (n) h) (fun a P2 hL hE hF => by
    delta fX2_isWithin_B2 at hF
    refine v_aload_n (pc := 2) (i := 2) dX2_isWithin_2 rfl rfl ?_
    refine s_ifnull (pc := 3) 21 dX2_isWithin_3 rfl hF (fun hF => ?_) (fun hF => ?_)
    · exact v_lle [none, none, none] trivial (hJ () (hE _ (okB_some hF)))
    refine v_aload_n (pc := 6) (i := 2) dX2_isWithin_6 rfl rfl ?_
    refine v_aload_n (pc := 7) (i := 1) dX2_isWithin_7 rfl rfl ?_
    refine v_acmp_ne (pc := 8) 13 dX2_isWithin_8 rfl (fun hc => ?_) (fun hc => ?_)
    · replace hF := (okB_if hF).2 hc
      refine v_aload_n (pc := 13) (i := 2) dX2_isWithin_13 rfl rfl ?_
      refine s_getR (pc := 14) dX2_isWithin_14 flX2_18 rfl hF (fun x1 hF => ?_)
      refine v_astore_n (pc := 17) (i := 2) [none, some (sr c1), some (sr x1)] dX2_isWithin_17 rfl (by decide) rfl rfl ?_
      refine v_goto (pc := 18) 2 dX2_isWithin_18 rfl ?_
      exact v_lle [none, some (sr c1), some (sr x1)] ⟨rfl, rfl, trivial⟩ (hL x1 (okB_some hF))
    replace hF := (okB_if hF).1 hc
    refine v_iconst (pc := 11) (v := (1 : Int32)) dX2_isWithin_11 rfl ?_
    exact v_iret (pc := 12) dX2_isWithin_12 rfl rfl (hR _ (hE _ (okB_some hF))))
theorem tX2_isWithin {G : gG} (a0 : Nat) (a1 : (Option Nat)) (h : hp) (Q : hQ) (hF : okB (fX2_isWithin a0 a1 h) (pP gI Q h)) : gS G mX2_isWithin 0 0 0 [sr (some a0), sr a1] h Q := by
  delta fX2_isWithin at hF
  refine gS_at [some (sr (some a0)), some (sr a1), none] pl_X2 rfl (Nat.le_of_ble_eq_true rfl) rfl ?_
  refine v_aload_n (pc := 0) (i := 0) dX2_isWithin_0 rfl rfl ?_
  refine v_astore_n (pc := 1) (i := 2) [some (sr (some a0)), some (sr a1), some (sr (some a0))] dX2_isWithin_1 rfl (by decide) rfl rfl ?_
  refine mgR (X := fun q1 => gV G mX2_isWithin 0 Q 21 [none, none, none] [] (0) (0) h) hF (fun _ hj2 hr2 hF => v_lle [none, some (sr a1), some (sr (some a0))] ⟨rfl, rfl, trivial⟩ (lX2_isWithin_2 a1 h hj2 (fun _ hp => (hr2 _ hp)) FU (some a0) hF)) (fun q1 hF => ?_)
  refine v_iconst (pc := 21) (v := (0 : Int32)) dX2_isWithin_21 rfl ?_
  exact v_iret (pc := 22) dX2_isWithin_22 rfl rfl (okr hF fun q => q)
/-! BrailleDesk$Element.isShownNow -/
theorem lX2_isShownNow_2 {G : gG} {Q : hQ} {P : (Int32 ⊕ Unit) → Prop} {k n : Nat} (h : hp) (hJ : ∀ q : Unit, P (.inr q) → gV G mX2_isShownNow 0 Q 23 [none, none] [] (k) (n) h) (hR : ∀ r : Int32, P (.inl (r)) → (pP gI Q h) r) : ∀ (fu : Nat) (a : (Option Nat)), okB (itr (fX2_isShownNow_B2 h) fu a) P → gV G mX2_isShownNow 0 Q 2 [none, some (sr a)] [] (k) (n) h :=
  lpg (X := fun (a : (Option Nat)) => gV G mX2_isShownNow 0 Q 2 [none, some (sr a)] [] (k) (n) h) (fun a P2 hL hE hF => by
    delta fX2_isShownNow_B2 at hF
    refine v_aload_n (pc := 2) (i := 1) dX2_isShownNow_2 rfl rfl ?_
    refine s_ifnull (pc := 3) 23 dX2_isShownNow_3 rfl hF (fun hF => ?_) (fun hF => ?_)
    · exact v_lle [none, none] trivial (hJ () (hE _ (okB_some hF)))
    refine v_aload_n (pc := 6) (i := 1) dX2_isShownNow_6 rfl rfl ?_
    refine s_getI (pc := 7) dX2_isShownNow_7 flX2_50 rfl hF (fun x1 hF => ?_)
    refine v_if_eq (pc := 10) 15 dX2_isShownNow_10 rfl (fun hc => ?_) (fun hc => ?_)
    · replace hF := (okB_if hF).1 hc
      refine v_aload_n (pc := 15) (i := 1) dX2_isShownNow_15 rfl rfl ?_
      refine s_getR (pc := 16) dX2_isShownNow_16 flX2_18 rfl hF (fun x2 hF => ?_)
      refine v_astore_n (pc := 19) (i := 1) [none, some (sr x2)] dX2_isShownNow_19 rfl (by decide) rfl rfl ?_
      refine v_goto (pc := 20) 2 dX2_isShownNow_20 rfl ?_
      exact v_lle [none, some (sr x2)] ⟨rfl, trivial⟩ (hL x2 (okB_some hF))
    replace hF := (okB_if hF).2 hc
    refine v_iconst (pc := 13) (v := (0 : Int32)) dX2_isShownNow_13 rfl ?_
    exact v_iret (pc := 14) dX2_isShownNow_14 rfl rfl (hR _ (hE _ (okB_some hF))))
theorem tX2_isShownNow {G : gG} (a0 : Nat) (h : hp) (Q : hQ) (hF : okB (fX2_isShownNow a0 h) (pP gI Q h)) : gS G mX2_isShownNow 0 0 0 [sr (some a0)] h Q := by
  delta fX2_isShownNow at hF
  refine gS_at [some (sr (some a0)), none] pl_X2 rfl (Nat.le_of_ble_eq_true rfl) rfl ?_
  refine v_aload_n (pc := 0) (i := 0) dX2_isShownNow_0 rfl rfl ?_
  refine v_astore_n (pc := 1) (i := 1) [some (sr (some a0)), some (sr (some a0))] dX2_isShownNow_1 rfl (by decide) rfl rfl ?_
  refine mgR (X := fun q1 => gV G mX2_isShownNow 0 Q 23 [none, none] [] (0) (0) h) hF (fun _ hj2 hr2 hF => v_lle [none, some (sr (some a0))] ⟨rfl, trivial⟩ (lX2_isShownNow_2 h hj2 (fun _ hp => (hr2 _ hp)) FU (some a0) hF)) (fun q1 hF => ?_)
  refine v_iconst (pc := 23) (v := (1 : Int32)) dX2_isShownNow_23 rfl ?_
  exact v_iret (pc := 24) dX2_isShownNow_24 rfl rfl (okr hF fun q => q)
