/-! ===== methods: their functions and rows ===== -/
theorem dX7_placeInOrder_0 : decode cX7_placeInOrder 0 = .ok (.iconst 0, 1) := by decide +kernel
theorem dX7_placeInOrder_1 : decode cX7_placeInOrder 1 = .ok (.istore_n 2, 1) := by decide +kernel
theorem dX7_placeInOrder_2 : decode cX7_placeInOrder 2 = .ok (.iload_n 2, 1) := by decide +kernel
theorem dX7_placeInOrder_3 : decode cX7_placeInOrder 3 = .ok (.aload_n 0, 1) := by decide +kernel
theorem dX7_placeInOrder_4 : decode cX7_placeInOrder 4 = .ok (.getfield 34, 3) := by decide +kernel
theorem dX7_placeInOrder_7 : decode cX7_placeInOrder 7 = .ok (.if_icmp .ge 20, 3) := by decide +kernel
theorem dX7_placeInOrder_10 : decode cX7_placeInOrder 10 = .ok (.aload_n 0, 1) := by decide +kernel
theorem dX7_placeInOrder_11 : decode cX7_placeInOrder 11 = .ok (.iload_n 2, 1) := by decide +kernel
theorem dX7_placeInOrder_12 : decode cX7_placeInOrder 12 = .ok (.invokevirtual 37, 3) := by decide +kernel
theorem dX7_placeInOrder_15 : decode cX7_placeInOrder 15 = .ok (.aload_n 1, 1) := by decide +kernel
theorem dX7_placeInOrder_16 : decode cX7_placeInOrder 16 = .ok (.if_acmp .ne 5, 3) := by decide +kernel
theorem dX7_placeInOrder_19 : decode cX7_placeInOrder 19 = .ok (.iload_n 2, 1) := by decide +kernel
theorem dX7_placeInOrder_20 : decode cX7_placeInOrder 20 = .ok (.ireturn, 1) := by decide +kernel
theorem dX7_placeInOrder_21 : decode cX7_placeInOrder 21 = .ok (.iinc 2 1, 3) := by decide +kernel
theorem dX7_placeInOrder_24 : decode cX7_placeInOrder 24 = .ok (.goto (-22), 3) := by decide +kernel
theorem dX7_placeInOrder_27 : decode cX7_placeInOrder 27 = .ok (.iconst (-1), 1) := by decide +kernel
theorem dX7_placeInOrder_28 : decode cX7_placeInOrder 28 = .ok (.ireturn, 1) := by decide +kernel
theorem dX7_collect_0 : decode cX7_collect 0 = .ok (.aload_n 0, 1) := by decide +kernel
theorem dX7_collect_1 : decode cX7_collect 1 = .ok (.getfield 73, 3) := by decide +kernel
theorem dX7_collect_4 : decode cX7_collect 4 = .ok (.ifCond .ne 19, 3) := by decide +kernel
theorem dX7_collect_7 : decode cX7_collect 7 = .ok (.iload_n 3, 1) := by decide +kernel
theorem dX7_collect_8 : decode cX7_collect 8 = .ok (.bipush 40, 2) := by decide +kernel
theorem dX7_collect_10 : decode cX7_collect 10 = .ok (.if_icmp .ge 13, 3) := by decide +kernel
theorem dX7_collect_13 : decode cX7_collect 13 = .ok (.iload_n 2, 1) := by decide +kernel
theorem dX7_collect_14 : decode cX7_collect 14 = .ok (.ifCond .lt 9, 3) := by decide +kernel
theorem dX7_collect_17 : decode cX7_collect 17 = .ok (.iload_n 2, 1) := by decide +kernel
theorem dX7_collect_18 : decode cX7_collect 18 = .ok (.aload_n 1, 1) := by decide +kernel
theorem dX7_collect_19 : decode cX7_collect 19 = .ok (.arraylength, 1) := by decide +kernel
theorem dX7_collect_20 : decode cX7_collect 20 = .ok (.if_icmp .lt 5, 3) := by decide +kernel
theorem dX7_collect_23 : decode cX7_collect 23 = .ok (.iload_n 2, 1) := by decide +kernel
theorem dX7_collect_24 : decode cX7_collect 24 = .ok (.ireturn, 1) := by decide +kernel
theorem dX7_collect_25 : decode cX7_collect 25 = .ok (.aload_n 1, 1) := by decide +kernel
theorem dX7_collect_26 : decode cX7_collect 26 = .ok (.iload_n 2, 1) := by decide +kernel
theorem dX7_collect_27 : decode cX7_collect 27 = .ok (.aload_n 0, 1) := by decide +kernel
theorem dX7_collect_28 : decode cX7_collect 28 = .ok (.aastore, 1) := by decide +kernel
theorem dX7_collect_29 : decode cX7_collect 29 = .ok (.iload_n 2, 1) := by decide +kernel
theorem dX7_collect_30 : decode cX7_collect 30 = .ok (.iconst 1, 1) := by decide +kernel
theorem dX7_collect_31 : decode cX7_collect 31 = .ok (.iadd, 1) := by decide +kernel
theorem dX7_collect_32 : decode cX7_collect 32 = .ok (.istore 4, 2) := by decide +kernel
theorem dX7_collect_34 : decode cX7_collect 34 = .ok (.iconst 0, 1) := by decide +kernel
theorem dX7_collect_35 : decode cX7_collect 35 = .ok (.istore 5, 2) := by decide +kernel
theorem dX7_collect_37 : decode cX7_collect 37 = .ok (.iload 5, 2) := by decide +kernel
theorem dX7_collect_39 : decode cX7_collect 39 = .ok (.aload_n 0, 1) := by decide +kernel
theorem dX7_collect_40 : decode cX7_collect 40 = .ok (.invokevirtual 77, 3) := by decide +kernel
theorem dX7_collect_43 : decode cX7_collect 43 = .ok (.if_icmp .ge 35, 3) := by decide +kernel
theorem dX7_collect_46 : decode cX7_collect 46 = .ok (.aload_n 0, 1) := by decide +kernel
theorem dX7_collect_47 : decode cX7_collect 47 = .ok (.iload 5, 2) := by decide +kernel
theorem dX7_collect_49 : decode cX7_collect 49 = .ok (.invokevirtual 81, 3) := by decide +kernel
theorem dX7_collect_52 : decode cX7_collect 52 = .ok (.astore 6, 2) := by decide +kernel
theorem dX7_collect_54 : decode cX7_collect 54 = .ok (.aload 6, 2) := by decide +kernel
theorem dX7_collect_56 : decode cX7_collect 56 = .ok (.ifnull 16, 3) := by decide +kernel
theorem dX7_collect_59 : decode cX7_collect 59 = .ok (.aload 6, 2) := by decide +kernel
theorem dX7_collect_61 : decode cX7_collect 61 = .ok (.aload_n 1, 1) := by decide +kernel
theorem dX7_collect_62 : decode cX7_collect 62 = .ok (.iload 4, 2) := by decide +kernel
theorem dX7_collect_64 : decode cX7_collect 64 = .ok (.iload_n 3, 1) := by decide +kernel
theorem dX7_collect_65 : decode cX7_collect 65 = .ok (.iconst 1, 1) := by decide +kernel
theorem dX7_collect_66 : decode cX7_collect 66 = .ok (.iadd, 1) := by decide +kernel
theorem dX7_collect_67 : decode cX7_collect 67 = .ok (.invokestatic 69, 3) := by decide +kernel
theorem dX7_collect_70 : decode cX7_collect 70 = .ok (.istore 4, 2) := by decide +kernel
theorem dX7_collect_72 : decode cX7_collect 72 = .ok (.iinc 5 1, 3) := by decide +kernel
theorem dX7_collect_75 : decode cX7_collect 75 = .ok (.goto (-38), 3) := by decide +kernel
theorem dX7_collect_78 : decode cX7_collect 78 = .ok (.iload 4, 2) := by decide +kernel
theorem dX7_collect_80 : decode cX7_collect 80 = .ok (.ireturn, 1) := by decide +kernel
theorem dX7_reorder_0 : decode cX7_reorder 0 = .ok (.aload_n 0, 1) := by decide +kernel
theorem dX7_reorder_1 : decode cX7_reorder 1 = .ok (.aload_n 0, 1) := by decide +kernel
theorem dX7_reorder_2 : decode cX7_reorder 2 = .ok (.getfield 14, 3) := by decide +kernel
theorem dX7_reorder_5 : decode cX7_reorder 5 = .ok (.aload_n 0, 1) := by decide +kernel
theorem dX7_reorder_6 : decode cX7_reorder 6 = .ok (.getfield 31, 3) := by decide +kernel
theorem dX7_reorder_9 : decode cX7_reorder 9 = .ok (.iconst 0, 1) := by decide +kernel
theorem dX7_reorder_10 : decode cX7_reorder 10 = .ok (.iconst 0, 1) := by decide +kernel
theorem dX7_reorder_11 : decode cX7_reorder 11 = .ok (.invokestatic 69, 3) := by decide +kernel
theorem dX7_reorder_14 : decode cX7_reorder 14 = .ok (.putfield 34, 3) := by decide +kernel
theorem dX7_reorder_17 : decode cX7_reorder 17 = .ok (.return_, 1) := by decide +kernel
theorem dX7_make_0 : decode cX7_make 0 = .ok (.new 9, 3) := by decide +kernel
theorem dX7_make_3 : decode cX7_make 3 = .ok (.dup, 1) := by decide +kernel
theorem dX7_make_4 : decode cX7_make 4 = .ok (.aload_n 0, 1) := by decide +kernel
theorem dX7_make_5 : decode cX7_make 5 = .ok (.getfield 24, 3) := by decide +kernel
theorem dX7_make_8 : decode cX7_make 8 = .ok (.iload_n 3, 1) := by decide +kernel
theorem dX7_make_9 : decode cX7_make 9 = .ok (.aload_n 1, 1) := by decide +kernel
theorem dX7_make_10 : decode cX7_make 10 = .ok (.invokespecial 11, 3) := by decide +kernel
theorem dX7_make_13 : decode cX7_make 13 = .ok (.astore 5, 2) := by decide +kernel
theorem dX7_make_15 : decode cX7_make 15 = .ok (.aload 5, 2) := by decide +kernel
theorem dX7_make_17 : decode cX7_make 17 = .ok (.getfield 41, 3) := by decide +kernel
theorem dX7_make_20 : decode cX7_make 20 = .ok (.aload 4, 2) := by decide +kernel
theorem dX7_make_22 : decode cX7_make 22 = .ok (.invokevirtual 45, 3) := by decide +kernel
theorem dX7_make_25 : decode cX7_make 25 = .ok (.aload_n 0, 1) := by decide +kernel
theorem dX7_make_26 : decode cX7_make 26 = .ok (.getfield 24, 3) := by decide +kernel
theorem dX7_make_29 : decode cX7_make 29 = .ok (.ifCond .lt 57, 3) := by decide +kernel
theorem dX7_make_32 : decode cX7_make 32 = .ok (.aload_n 0, 1) := by decide +kernel
theorem dX7_make_33 : decode cX7_make 33 = .ok (.getfield 24, 3) := by decide +kernel
theorem dX7_make_36 : decode cX7_make 36 = .ok (.aload_n 0, 1) := by decide +kernel
theorem dX7_make_37 : decode cX7_make 37 = .ok (.getfield 20, 3) := by decide +kernel
theorem dX7_make_40 : decode cX7_make 40 = .ok (.arraylength, 1) := by decide +kernel
theorem dX7_make_41 : decode cX7_make 41 = .ok (.if_icmp .ge 45, 3) := by decide +kernel
theorem dX7_make_44 : decode cX7_make 44 = .ok (.aload_n 0, 1) := by decide +kernel
theorem dX7_make_45 : decode cX7_make 45 = .ok (.getfield 20, 3) := by decide +kernel
theorem dX7_make_48 : decode cX7_make 48 = .ok (.aload_n 0, 1) := by decide +kernel
theorem dX7_make_49 : decode cX7_make 49 = .ok (.getfield 24, 3) := by decide +kernel
theorem dX7_make_52 : decode cX7_make 52 = .ok (.aload 5, 2) := by decide +kernel
theorem dX7_make_54 : decode cX7_make 54 = .ok (.aastore, 1) := by decide +kernel
theorem dX7_make_55 : decode cX7_make 55 = .ok (.aload_n 0, 1) := by decide +kernel
theorem dX7_make_56 : decode cX7_make 56 = .ok (.dup, 1) := by decide +kernel
theorem dX7_make_57 : decode cX7_make 57 = .ok (.getfield 24, 3) := by decide +kernel
theorem dX7_make_60 : decode cX7_make 60 = .ok (.iconst 1, 1) := by decide +kernel
theorem dX7_make_61 : decode cX7_make 61 = .ok (.iadd, 1) := by decide +kernel
theorem dX7_make_62 : decode cX7_make 62 = .ok (.putfield 24, 3) := by decide +kernel
theorem dX7_make_65 : decode cX7_make 65 = .ok (.aload_n 0, 1) := by decide +kernel
theorem dX7_make_66 : decode cX7_make 66 = .ok (.dup, 1) := by decide +kernel
theorem dX7_make_67 : decode cX7_make 67 = .ok (.getfield 28, 3) := by decide +kernel
theorem dX7_make_70 : decode cX7_make 70 = .ok (.iconst 1, 1) := by decide +kernel
theorem dX7_make_71 : decode cX7_make 71 = .ok (.iadd, 1) := by decide +kernel
theorem dX7_make_72 : decode cX7_make 72 = .ok (.putfield 28, 3) := by decide +kernel
theorem dX7_make_75 : decode cX7_make 75 = .ok (.aload_n 1, 1) := by decide +kernel
theorem dX7_make_76 : decode cX7_make 76 = .ok (.aload 5, 2) := by decide +kernel
theorem dX7_make_78 : decode cX7_make 78 = .ok (.iload_n 2, 1) := by decide +kernel
theorem dX7_make_79 : decode cX7_make 79 = .ok (.invokevirtual 51, 3) := by decide +kernel
theorem dX7_make_82 : decode cX7_make 82 = .ok (.aload_n 0, 1) := by decide +kernel
theorem dX7_make_83 : decode cX7_make 83 = .ok (.invokevirtual 55, 3) := by decide +kernel
theorem dX7_make_86 : decode cX7_make 86 = .ok (.aload 5, 2) := by decide +kernel
theorem dX7_make_88 : decode cX7_make 88 = .ok (.areturn, 1) := by decide +kernel
theorem dX7_takeOut_0 : decode cX7_takeOut 0 = .ok (.aload_n 0, 1) := by decide +kernel
theorem dX7_takeOut_1 : decode cX7_takeOut 1 = .ok (.getfield 28, 3) := by decide +kernel
theorem dX7_takeOut_4 : decode cX7_takeOut 4 = .ok (.istore_n 2, 1) := by decide +kernel
theorem dX7_takeOut_5 : decode cX7_takeOut 5 = .ok (.iconst 0, 1) := by decide +kernel
theorem dX7_takeOut_6 : decode cX7_takeOut 6 = .ok (.istore_n 3, 1) := by decide +kernel
theorem dX7_takeOut_7 : decode cX7_takeOut 7 = .ok (.iload_n 3, 1) := by decide +kernel
theorem dX7_takeOut_8 : decode cX7_takeOut 8 = .ok (.aload_n 0, 1) := by decide +kernel
theorem dX7_takeOut_9 : decode cX7_takeOut 9 = .ok (.getfield 20, 3) := by decide +kernel
theorem dX7_takeOut_12 : decode cX7_takeOut 12 = .ok (.arraylength, 1) := by decide +kernel
theorem dX7_takeOut_13 : decode cX7_takeOut 13 = .ok (.if_icmp .ge 48, 3) := by decide +kernel
theorem dX7_takeOut_16 : decode cX7_takeOut 16 = .ok (.aload_n 0, 1) := by decide +kernel
theorem dX7_takeOut_17 : decode cX7_takeOut 17 = .ok (.getfield 20, 3) := by decide +kernel
theorem dX7_takeOut_20 : decode cX7_takeOut 20 = .ok (.iload_n 3, 1) := by decide +kernel
theorem dX7_takeOut_21 : decode cX7_takeOut 21 = .ok (.aaload, 1) := by decide +kernel
theorem dX7_takeOut_22 : decode cX7_takeOut 22 = .ok (.astore 4, 2) := by decide +kernel
theorem dX7_takeOut_24 : decode cX7_takeOut 24 = .ok (.aload 4, 2) := by decide +kernel
theorem dX7_takeOut_26 : decode cX7_takeOut 26 = .ok (.ifnull 29, 3) := by decide +kernel
theorem dX7_takeOut_29 : decode cX7_takeOut 29 = .ok (.aload 4, 2) := by decide +kernel
theorem dX7_takeOut_31 : decode cX7_takeOut 31 = .ok (.aload_n 1, 1) := by decide +kernel
theorem dX7_takeOut_32 : decode cX7_takeOut 32 = .ok (.invokevirtual 58, 3) := by decide +kernel
theorem dX7_takeOut_35 : decode cX7_takeOut 35 = .ok (.ifCond .eq 20, 3) := by decide +kernel
theorem dX7_takeOut_38 : decode cX7_takeOut 38 = .ok (.aload_n 0, 1) := by decide +kernel
theorem dX7_takeOut_39 : decode cX7_takeOut 39 = .ok (.getfield 20, 3) := by decide +kernel
theorem dX7_takeOut_42 : decode cX7_takeOut 42 = .ok (.iload_n 3, 1) := by decide +kernel
theorem dX7_takeOut_43 : decode cX7_takeOut 43 = .ok (.aconst_null, 1) := by decide +kernel
theorem dX7_takeOut_44 : decode cX7_takeOut 44 = .ok (.aastore, 1) := by decide +kernel
theorem dX7_takeOut_45 : decode cX7_takeOut 45 = .ok (.aload_n 0, 1) := by decide +kernel
theorem dX7_takeOut_46 : decode cX7_takeOut 46 = .ok (.dup, 1) := by decide +kernel
theorem dX7_takeOut_47 : decode cX7_takeOut 47 = .ok (.getfield 28, 3) := by decide +kernel
theorem dX7_takeOut_50 : decode cX7_takeOut 50 = .ok (.iconst 1, 1) := by decide +kernel
theorem dX7_takeOut_51 : decode cX7_takeOut 51 = .ok (.isub, 1) := by decide +kernel
theorem dX7_takeOut_52 : decode cX7_takeOut 52 = .ok (.putfield 28, 3) := by decide +kernel
theorem dX7_takeOut_55 : decode cX7_takeOut 55 = .ok (.iinc 3 1, 3) := by decide +kernel
theorem dX7_takeOut_58 : decode cX7_takeOut 58 = .ok (.goto (-51), 3) := by decide +kernel
theorem dX7_takeOut_61 : decode cX7_takeOut 61 = .ok (.aload_n 1, 1) := by decide +kernel
theorem dX7_takeOut_62 : decode cX7_takeOut 62 = .ok (.getfield 62, 3) := by decide +kernel
theorem dX7_takeOut_65 : decode cX7_takeOut 65 = .ok (.ifnull 11, 3) := by decide +kernel
theorem dX7_takeOut_68 : decode cX7_takeOut 68 = .ok (.aload_n 1, 1) := by decide +kernel
theorem dX7_takeOut_69 : decode cX7_takeOut 69 = .ok (.getfield 62, 3) := by decide +kernel
theorem dX7_takeOut_72 : decode cX7_takeOut 72 = .ok (.aload_n 1, 1) := by decide +kernel
theorem dX7_takeOut_73 : decode cX7_takeOut 73 = .ok (.invokevirtual 65, 3) := by decide +kernel
theorem dX7_takeOut_76 : decode cX7_takeOut 76 = .ok (.aload_n 0, 1) := by decide +kernel
theorem dX7_takeOut_77 : decode cX7_takeOut 77 = .ok (.invokevirtual 55, 3) := by decide +kernel
theorem dX7_takeOut_80 : decode cX7_takeOut 80 = .ok (.iload_n 2, 1) := by decide +kernel
theorem dX7_takeOut_81 : decode cX7_takeOut 81 = .ok (.aload_n 0, 1) := by decide +kernel
theorem dX7_takeOut_82 : decode cX7_takeOut 82 = .ok (.getfield 28, 3) := by decide +kernel
theorem dX7_takeOut_85 : decode cX7_takeOut 85 = .ok (.isub, 1) := by decide +kernel
theorem dX7_takeOut_86 : decode cX7_takeOut 86 = .ok (.ireturn, 1) := by decide +kernel
theorem dX7_nextOfKind_0 : decode cX7_nextOfKind 0 = .ok (.aload_n 0, 1) := by decide +kernel
theorem dX7_nextOfKind_1 : decode cX7_nextOfKind 1 = .ok (.aload_n 1, 1) := by decide +kernel
theorem dX7_nextOfKind_2 : decode cX7_nextOfKind 2 = .ok (.invokevirtual 84, 3) := by decide +kernel
theorem dX7_nextOfKind_5 : decode cX7_nextOfKind 5 = .ok (.iconst 1, 1) := by decide +kernel
theorem dX7_nextOfKind_6 : decode cX7_nextOfKind 6 = .ok (.iadd, 1) := by decide +kernel
theorem dX7_nextOfKind_7 : decode cX7_nextOfKind 7 = .ok (.istore_n 3, 1) := by decide +kernel
theorem dX7_nextOfKind_8 : decode cX7_nextOfKind 8 = .ok (.iload_n 3, 1) := by decide +kernel
theorem dX7_nextOfKind_9 : decode cX7_nextOfKind 9 = .ok (.aload_n 0, 1) := by decide +kernel
theorem dX7_nextOfKind_10 : decode cX7_nextOfKind 10 = .ok (.getfield 34, 3) := by decide +kernel
theorem dX7_nextOfKind_13 : decode cX7_nextOfKind 13 = .ok (.if_icmp .ge 33, 3) := by decide +kernel
theorem dX7_nextOfKind_16 : decode cX7_nextOfKind 16 = .ok (.aload_n 0, 1) := by decide +kernel
theorem dX7_nextOfKind_17 : decode cX7_nextOfKind 17 = .ok (.iload_n 3, 1) := by decide +kernel
theorem dX7_nextOfKind_18 : decode cX7_nextOfKind 18 = .ok (.invokevirtual 37, 3) := by decide +kernel
theorem dX7_nextOfKind_21 : decode cX7_nextOfKind 21 = .ok (.astore 4, 2) := by decide +kernel
theorem dX7_nextOfKind_23 : decode cX7_nextOfKind 23 = .ok (.aload 4, 2) := by decide +kernel
theorem dX7_nextOfKind_25 : decode cX7_nextOfKind 25 = .ok (.ifnull 15, 3) := by decide +kernel
theorem dX7_nextOfKind_28 : decode cX7_nextOfKind 28 = .ok (.aload 4, 2) := by decide +kernel
theorem dX7_nextOfKind_30 : decode cX7_nextOfKind 30 = .ok (.getfield 88, 3) := by decide +kernel
theorem dX7_nextOfKind_33 : decode cX7_nextOfKind 33 = .ok (.iload_n 2, 1) := by decide +kernel
theorem dX7_nextOfKind_34 : decode cX7_nextOfKind 34 = .ok (.if_icmp .ne 6, 3) := by decide +kernel
theorem dX7_nextOfKind_37 : decode cX7_nextOfKind 37 = .ok (.aload 4, 2) := by decide +kernel
theorem dX7_nextOfKind_39 : decode cX7_nextOfKind 39 = .ok (.areturn, 1) := by decide +kernel
theorem dX7_nextOfKind_40 : decode cX7_nextOfKind 40 = .ok (.iinc 3 1, 3) := by decide +kernel
theorem dX7_nextOfKind_43 : decode cX7_nextOfKind 43 = .ok (.goto (-35), 3) := by decide +kernel
theorem dX7_nextOfKind_46 : decode cX7_nextOfKind 46 = .ok (.aconst_null, 1) := by decide +kernel
theorem dX7_nextOfKind_47 : decode cX7_nextOfKind 47 = .ok (.areturn, 1) := by decide +kernel
abbrev mX7_placeInOrder : gM := (yX7_placeInOrder, cX7_placeInOrder, 3, (Option.some FieldType.int), [])
theorem caX7_placeInOrder : cal mX7_placeInOrder 1 := ⟨xw 570 (by decide +kernel) rfl, xw 30 (by decide +kernel) rfl, by decide, by decide +kernel⟩
theorem cvX7_placeInOrder : calV mX7_placeInOrder := ⟨xw 568 (by decide +kernel) rfl, xw 569 (by decide +kernel) rfl⟩
abbrev mX7_collect : gM := (yX7_collect, cX7_collect, 7, (Option.some FieldType.int), [])
theorem caX7_collect : cal mX7_collect 4 := ⟨xw 1011 (by decide +kernel) rfl, xw 30 (by decide +kernel) rfl, by decide, by decide +kernel⟩
theorem csX7_collect : Cond.static yX7_collect ∈ XW := xw 1010 (by decide +kernel) rfl
abbrev mX7_reorder : gM := (yX7_reorder, cX7_reorder, 1, (Option.none : Option FieldType), [])
theorem caX7_reorder : cal mX7_reorder 0 := ⟨xw 1008 (by decide +kernel) rfl, xw 30 (by decide +kernel) rfl, by decide, by decide +kernel⟩
theorem cvX7_reorder : calV mX7_reorder := ⟨xw 1006 (by decide +kernel) rfl, xw 1007 (by decide +kernel) rfl⟩
abbrev mX7_make : gM := (yX7_make, cX7_make, 6, (Option.some (FieldType.object "BrailleDesk$Element")), [])
theorem caX7_make : cal mX7_make 4 := ⟨xw 999 (by decide +kernel) rfl, xw 30 (by decide +kernel) rfl, by decide, by decide +kernel⟩
theorem cvX7_make : calV mX7_make := ⟨xw 997 (by decide +kernel) rfl, xw 998 (by decide +kernel) rfl⟩
abbrev mX7_takeOut : gM := (yX7_takeOut, cX7_takeOut, 5, (Option.some FieldType.int), [])
theorem caX7_takeOut : cal mX7_takeOut 1 := ⟨xw 1061 (by decide +kernel) rfl, xw 30 (by decide +kernel) rfl, by decide, by decide +kernel⟩
theorem cvX7_takeOut : calV mX7_takeOut := ⟨xw 1059 (by decide +kernel) rfl, xw 1060 (by decide +kernel) rfl⟩
abbrev mX7_nextOfKind : gM := (yX7_nextOfKind, cX7_nextOfKind, 5, (Option.some (FieldType.object "BrailleDesk$Element")), [])
theorem caX7_nextOfKind : cal mX7_nextOfKind 2 := ⟨xw 792 (by decide +kernel) rfl, xw 30 (by decide +kernel) rfl, by decide, by decide +kernel⟩
theorem cvX7_nextOfKind : calV mX7_nextOfKind := ⟨xw 790 (by decide +kernel) rfl, xw 791 (by decide +kernel) rfl⟩
theorem lkX7_37 : Cond.methodLink RX7 37 yX7_inOrder ∈ XW := xw 571 (by decide +kernel) rfl
theorem flX7_73 : fl RX7 73 1 7 := ⟨by decide, by decide, xw 112 (by decide +kernel) rfl⟩
theorem lkX7_77 : Cond.methodLink RX7 77 yX2_size ∈ XW := xw 1012 (by decide +kernel) rfl
theorem lkX7_81 : Cond.methodLink RX7 81 yX2_child ∈ XW := xw 1013 (by decide +kernel) rfl
theorem lkX7_69 : Cond.methodLink RX7 69 yX7_collect ∈ XW := xw 1009 (by decide +kernel) rfl
theorem flX7_41 : fl RX7 41 1 5 := ⟨by decide, by decide, xw 103 (by decide +kernel) rfl⟩
theorem lkX7_45 : Cond.methodLink RX7 45 yX1_copy ∈ XW := xw 1000 (by decide +kernel) rfl
theorem lkX7_51 : Cond.methodLink RX7 51 yX2_insert ∈ XW := xw 1001 (by decide +kernel) rfl
theorem lkX7_55 : Cond.methodLink RX7 55 yX7_reorder ∈ XW := xw 1005 (by decide +kernel) rfl
theorem lkX7_58 : Cond.methodLink RX7 58 yX2_isWithin ∈ XW := xw 1062 (by decide +kernel) rfl
theorem flX7_62 : fl RX7 62 1 2 := ⟨by decide, by decide, xw 95 (by decide +kernel) rfl⟩
theorem lkX7_65 : Cond.methodLink RX7 65 yX2_takeOut ∈ XW := xw 1063 (by decide +kernel) rfl
theorem lkX7_84 : Cond.methodLink RX7 84 yX7_placeInOrder ∈ XW := xw 692 (by decide +kernel) rfl
theorem flX7_88 : fl RX7 88 1 1 := ⟨by decide, by decide, xw 91 (by decide +kernel) rfl⟩
/-! BrailleDesk$Tree.placeInOrder -/
theorem lX7_placeInOrder_2 {G : gG} {Q : hQ} {P : (Int32 ⊕ Unit) → Prop} {k n : Nat} (c0 : Nat) (c1 : (Option Nat)) (h : hp) (hJ : ∀ q : Unit, P (.inr q) → gV G mX7_placeInOrder 1 Q 27 [none, none, none] [] (k) (n) h) (hR : ∀ r : Int32, P (.inl (r)) → (pP gI Q h) r) : ∀ (fu : Nat) (a : Int32), okB (itr (fX7_placeInOrder_B2 c0 c1 h) fu a) P → gV G mX7_placeInOrder 1 Q 2 [some (sr (some c0)), some (sr c1), some (si a)] [] (k) (n) h :=
  lpg (X := fun (a : Int32) => gV G mX7_placeInOrder 1 Q 2 [some (sr (some c0)), some (sr c1), some (si a)] [] (k) (n) h) (fun a P2 hL hE hF => by
    delta fX7_placeInOrder_B2 at hF
    refine v_iload_n (pc := 2) (i := 2) dX7_placeInOrder_2 rfl rfl ?_
    refine v_aload_n (pc := 3) (i := 0) dX7_placeInOrder_3 rfl rfl ?_
    refine s_getI (pc := 4) dX7_placeInOrder_4 flX7_34 rfl hF (fun x1 hF => ?_)
    refine v_icmp_ge (pc := 7) 27 dX7_placeInOrder_7 rfl (fun hc => ?_) (fun hc => ?_)
    · replace hF := (okB_if hF).1 hc
      exact v_lle [none, none, none] trivial (hJ () (hE _ (okB_some hF)))
    replace hF := (okB_if hF).2 hc
    refine v_aload_n (pc := 10) (i := 0) dX7_placeInOrder_10 rfl rfl ?_
    refine v_iload_n (pc := 11) (i := 2) dX7_placeInOrder_11 rfl rfl ?_
    refine cp_V (pc := 12) gR (as := [si a]) (st := []) (ci := 6) (N := mX7_inOrder) (k := k) (n := n) (k1 := 0) (n1 := 0) dX7_placeInOrder_12 lkX7_37 caX7_inOrder cvX7_inOrder rfl (by decide) rfl (fun b Q1 hq => tX7_inOrder b a h Q1 hq) ⟨by decide, by decide⟩ (Nat.le_of_ble_eq_true rfl) rfl hF (fun x2 hF => ?_)
    show gV G mX7_placeInOrder 1 Q 15 [some (sr (some c0)), some (sr c1), some (si a)] [sr x2] (k) (n) h
    refine v_aload_n (pc := 15) (i := 1) dX7_placeInOrder_15 rfl rfl ?_
    refine v_acmp_ne (pc := 16) 21 dX7_placeInOrder_16 rfl (fun hc => ?_) (fun hc => ?_)
    · replace hF := (okB_if hF).2 hc
      refine v_iinc (pc := 21) (i := 2) (a + (1 : Int32)) [some (sr (some c0)), some (sr c1), some (si (a + (1 : Int32)))] dX7_placeInOrder_21 rfl rfl rfl rfl ?_
      refine v_goto (pc := 24) 2 dX7_placeInOrder_24 rfl ?_
      exact v_lle [some (sr (some c0)), some (sr c1), some (si (a + (1 : Int32)))] ⟨rfl, rfl, rfl, trivial⟩ (hL (a + (1 : Int32)) (okB_some hF))
    replace hF := (okB_if hF).1 hc
    refine v_iload_n (pc := 19) (i := 2) dX7_placeInOrder_19 rfl rfl ?_
    exact v_iret (pc := 20) dX7_placeInOrder_20 rfl rfl (hR _ (hE _ (okB_some hF))))
theorem tX7_placeInOrder {G : gG} (a0 : Nat) (a1 : (Option Nat)) (h : hp) (Q : hQ) (hF : okB (fX7_placeInOrder a0 a1 h) (pP gI Q h)) : gS G mX7_placeInOrder 1 0 0 [sr (some a0), sr a1] h Q := by
  delta fX7_placeInOrder at hF
  refine gS_at [some (sr (some a0)), some (sr a1), none] pl_X7 rfl (Nat.le_of_ble_eq_true rfl) rfl ?_
  refine v_iconst (pc := 0) (v := (0 : Int32)) dX7_placeInOrder_0 rfl ?_
  refine v_istore_n (pc := 1) (i := 2) [some (sr (some a0)), some (sr a1), some (si (0 : Int32))] dX7_placeInOrder_1 rfl (by decide) rfl rfl ?_
  refine mgR (X := fun q1 => gV G mX7_placeInOrder 1 Q 27 [none, none, none] [] (0) (0) h) hF (fun _ hj2 hr2 hF => v_lle [some (sr (some a0)), some (sr a1), some (si (0 : Int32))] ⟨rfl, rfl, rfl, trivial⟩ (lX7_placeInOrder_2 a0 a1 h hj2 (fun _ hp => (hr2 _ hp)) FU (0 : Int32) hF)) (fun q1 hF => ?_)
  refine v_iconst (pc := 27) (v := (-1 : Int32)) dX7_placeInOrder_27 rfl ?_
  exact v_iret (pc := 28) dX7_placeInOrder_28 rfl rfl (okr hF fun q => q)
/-! BrailleDesk$Tree.collect -/
theorem lX7_collect_37 {G : gG} {Q : hQ} {P : (Int32 × hp) → Prop} {k n : Nat} {d0 : Nat} (rc : Option Nat → Option Nat → Int32 → Int32 → hp → Option (Int32 × hp)) (hrc : ∀ (b0 b1 : Option Nat) (b2 b3 : Int32) (h1 : hp) (Q1 : hQ), okB (rc b0 b1 b2 b3 h1) (pH gI Q1) → gS G mX7_collect d0 0 0 [sr b0, sr b1, si b2, si b3] h1 Q1) (c0 : (Option Nat)) (c1 : (Option Nat)) (c3 : Int32) (hJ : ∀ q : (Int32 × hp), P q → gV G mX7_collect (d0 + 1) Q 78 [none, none, none, none, some (si q.1), none, none] [] (k) (n) q.2) : ∀ (fu : Nat) (a : (Int32 × Int32 × hp)), okB (itr (fX7_collect_B37 rc c0 c1 c3) fu a) P → gV G mX7_collect (d0 + 1) Q 37 [some (sr c0), some (sr c1), none, some (si c3), some (si a.1), some (si a.2.1), none] [] (k) (n) a.2.2 :=
  lpg (X := fun (a : (Int32 × Int32 × hp)) => gV G mX7_collect (d0 + 1) Q 37 [some (sr c0), some (sr c1), none, some (si c3), some (si a.1), some (si a.2.1), none] [] (k) (n) a.2.2) (fun a P2 hL hE hF => by
    delta fX7_collect_B37 at hF
    refine v_iload (pc := 37) (i := 5) dX7_collect_37 rfl ?_
    refine v_aload_n (pc := 39) (i := 0) dX7_collect_39 rfl rfl ?_
    refine cp_V (pc := 40) gI (as := []) (st := [si a.2.1]) (ci := 1) (N := mX2_size) (k := k) (n := n) (k1 := 0) (n1 := 0) dX7_collect_40 lkX7_77 caX2_size cvX2_size rfl (by decide) rfl (fun b Q1 hq => tX2_size b a.2.2 Q1 hq) ⟨by omega, by decide⟩ (Nat.le_of_ble_eq_true rfl) rfl hF (fun x1 hF => ?_)
    show gV G mX7_collect (d0 + 1) Q 43 [some (sr c0), some (sr c1), none, some (si c3), some (si a.1), some (si a.2.1), none] [si x1, si a.2.1] (k) (n) a.2.2
    refine v_icmp_ge (pc := 43) 78 dX7_collect_43 rfl (fun hc => ?_) (fun hc => ?_)
    · replace hF := (okB_if hF).1 hc
      exact v_lle [none, none, none, none, some (si a.1), none, none] ⟨rfl, trivial⟩ (hJ (a.1, a.2.2) (hE _ (okB_some hF)))
    replace hF := (okB_if hF).2 hc
    refine v_aload_n (pc := 46) (i := 0) dX7_collect_46 rfl rfl ?_
    refine v_iload (pc := 47) (i := 5) dX7_collect_47 rfl ?_
    refine cp_V (pc := 49) gR (as := [si a.2.1]) (st := []) (ci := 1) (N := mX2_child) (k := k) (n := n) (k1 := 0) (n1 := 0) dX7_collect_49 lkX7_81 caX2_child cvX2_child rfl (by decide) rfl (fun b Q1 hq => tX2_child b a.2.1 a.2.2 Q1 hq) ⟨by omega, by decide⟩ (Nat.le_of_ble_eq_true rfl) rfl hF (fun x2 hF => ?_)
    show gV G mX7_collect (d0 + 1) Q 52 [some (sr c0), some (sr c1), none, some (si c3), some (si a.1), some (si a.2.1), none] [sr x2] (k) (n) a.2.2
    refine v_astore (pc := 52) (i := 6) [some (sr c0), some (sr c1), none, some (si c3), some (si a.1), some (si a.2.1), some (sr x2)] dX7_collect_52 (by decide) rfl rfl ?_
    refine v_aload (pc := 54) (i := 6) dX7_collect_54 rfl ?_
    refine s_ifnull (pc := 56) 72 dX7_collect_56 rfl hF (fun hF => ?_) (fun hF => ?_)
    · refine v_iinc (pc := 72) (i := 5) (a.2.1 + (1 : Int32)) [some (sr c0), some (sr c1), none, some (si c3), some (si a.1), some (si (a.2.1 + (1 : Int32))), some (sr x2)] dX7_collect_72 rfl rfl rfl rfl ?_
      refine v_goto (pc := 75) 37 dX7_collect_75 rfl ?_
      exact v_lle [some (sr c0), some (sr c1), none, some (si c3), some (si a.1), some (si (a.2.1 + (1 : Int32))), none] ⟨rfl, rfl, rfl, rfl, rfl, trivial⟩ (hL (a.1, a.2.1 + (1 : Int32), a.2.2) (okB_some hF))
    refine v_aload (pc := 59) (i := 6) dX7_collect_59 rfl ?_
    refine v_aload_n (pc := 61) (i := 1) dX7_collect_61 rfl rfl ?_
    refine v_iload (pc := 62) (i := 4) dX7_collect_62 rfl ?_
    refine v_iload_n (pc := 64) (i := 3) dX7_collect_64 rfl rfl ?_
    refine v_iconst (pc := 65) (v := (1 : Int32)) dX7_collect_65 rfl ?_
    refine v_iadd (pc := 66) dX7_collect_66 ?_
    refine ch_S (pc := 67) gI (as := [sr x2, sr c1, si a.1, si (c3 + (1 : Int32))]) (st := []) (N := mX7_collect) (k := k) (n := n) (k1 := 0) (n1 := 0) dX7_collect_67 lkX7_69 caX7_collect csX7_collect rfl (fun Q1 hq => hrc x2 c1 a.1 (c3 + (1 : Int32)) a.2.2 Q1 hq) ⟨Nat.le_refl _, by decide⟩ (Nat.le_of_ble_eq_true rfl) rfl hF (fun x3 h4 hF => ?_)
    show gV G mX7_collect (d0 + 1) Q 70 [some (sr c0), some (sr c1), none, some (si c3), some (si a.1), some (si a.2.1), some (sr x2)] [si x3] (k) (n) h4
    refine v_istore (pc := 70) (i := 4) [some (sr c0), some (sr c1), none, some (si c3), some (si x3), some (si a.2.1), some (sr x2)] dX7_collect_70 (by decide) rfl rfl ?_
    refine v_iinc (pc := 72) (i := 5) (a.2.1 + (1 : Int32)) [some (sr c0), some (sr c1), none, some (si c3), some (si x3), some (si (a.2.1 + (1 : Int32))), some (sr x2)] dX7_collect_72 rfl rfl rfl rfl ?_
    refine v_goto (pc := 75) 37 dX7_collect_75 rfl ?_
    exact v_lle [some (sr c0), some (sr c1), none, some (si c3), some (si x3), some (si (a.2.1 + (1 : Int32))), none] ⟨rfl, rfl, rfl, rfl, rfl, trivial⟩ (hL (x3, a.2.1 + (1 : Int32), h4) (okB_some hF)))
theorem uX7_collect {G : gG} {d0 : Nat} (rc : Option Nat → Option Nat → Int32 → Int32 → hp → Option (Int32 × hp)) (hrc : ∀ (b0 b1 : Option Nat) (b2 b3 : Int32) (h1 : hp) (Q1 : hQ), okB (rc b0 b1 b2 b3 h1) (pH gI Q1) → gS G mX7_collect d0 0 0 [sr b0, sr b1, si b2, si b3] h1 Q1) (a0 : (Option Nat)) (a1 : (Option Nat)) (a2 : Int32) (a3 : Int32) (h : hp) (Q : hQ) (hF : okB (fX7_collect_b rc a0 a1 a2 a3 h) (pH gI Q)) : gS G mX7_collect (d0 + 1) 0 0 [sr a0, sr a1, si a2, si a3] h Q := by
  delta fX7_collect_b at hF
  refine gS_at [some (sr a0), some (sr a1), some (si a2), some (si a3), none, none, none] pl_X7 rfl (Nat.le_of_ble_eq_true rfl) rfl ?_
  refine v_aload_n (pc := 0) (i := 0) dX7_collect_0 rfl rfl ?_
  refine s_getI (pc := 1) dX7_collect_1 flX7_73 rfl hF (fun x1 hF => ?_)
  refine v_if_ne (pc := 4) 23 dX7_collect_4 rfl (fun hc => ?_) (fun hc => ?_)
  · replace hF := (okB_if hF).2 hc
    refine v_iload_n (pc := 23) (i := 2) dX7_collect_23 rfl rfl ?_
    exact v_iret (pc := 24) dX7_collect_24 rfl rfl (okr hF fun q => q)
  replace hF := (okB_if hF).1 hc
  refine v_iload_n (pc := 7) (i := 3) dX7_collect_7 rfl rfl ?_
  refine v_bipush (pc := 8) (v := (40 : Int32)) dX7_collect_8 rfl ?_
  refine v_icmp_ge (pc := 10) 23 dX7_collect_10 rfl (fun hc => ?_) (fun hc => ?_)
  · replace hF := (okB_if hF).1 hc
    refine v_iload_n (pc := 23) (i := 2) dX7_collect_23 rfl rfl ?_
    exact v_iret (pc := 24) dX7_collect_24 rfl rfl (okr hF fun q => q)
  replace hF := (okB_if hF).2 hc
  refine v_iload_n (pc := 13) (i := 2) dX7_collect_13 rfl rfl ?_
  refine v_if_lt (pc := 14) 23 dX7_collect_14 rfl (fun hc => ?_) (fun hc => ?_)
  · replace hF := (okB_if hF).1 hc
    refine v_iload_n (pc := 23) (i := 2) dX7_collect_23 rfl rfl ?_
    exact v_iret (pc := 24) dX7_collect_24 rfl rfl (okr hF fun q => q)
  replace hF := (okB_if hF).2 hc
  refine v_iload_n (pc := 17) (i := 2) dX7_collect_17 rfl rfl ?_
  refine v_aload_n (pc := 18) (i := 1) dX7_collect_18 rfl rfl ?_
  refine s_alen (pc := 19) dX7_collect_19 hF (fun x2 hF => ?_)
  refine v_icmp_lt (pc := 20) 25 dX7_collect_20 rfl (fun hc => ?_) (fun hc => ?_)
  · replace hF := (okB_if hF).1 hc
    refine v_aload_n (pc := 25) (i := 1) dX7_collect_25 rfl rfl ?_
    refine v_iload_n (pc := 26) (i := 2) dX7_collect_26 rfl rfl ?_
    refine v_aload_n (pc := 27) (i := 0) dX7_collect_27 rfl rfl ?_
    refine s_aast22 (pc := 28) dX7_collect_28 hF (fun h3 hF => ?_)
    refine v_iload_n (pc := 29) (i := 2) dX7_collect_29 rfl rfl ?_
    refine v_iconst (pc := 30) (v := (1 : Int32)) dX7_collect_30 rfl ?_
    refine v_iadd (pc := 31) dX7_collect_31 ?_
    refine v_istore (pc := 32) (i := 4) [some (sr a0), some (sr a1), some (si a2), some (si a3), some (si (a2 + (1 : Int32))), none, none] dX7_collect_32 (by decide) rfl rfl ?_
    refine v_iconst (pc := 34) (v := (0 : Int32)) dX7_collect_34 rfl ?_
    refine v_istore (pc := 35) (i := 5) [some (sr a0), some (sr a1), some (si a2), some (si a3), some (si (a2 + (1 : Int32))), some (si (0 : Int32)), none] dX7_collect_35 (by decide) rfl rfl ?_
    refine mg (X := fun q4 => gV G mX7_collect (d0 + 1) Q 78 [none, none, none, none, some (si q4.1), none, none] [] (0) (0) q4.2) hF (fun _ hj5 hF => v_lle [some (sr a0), some (sr a1), none, some (si a3), some (si (a2 + (1 : Int32))), some (si (0 : Int32)), none] ⟨rfl, rfl, rfl, rfl, rfl, trivial⟩ (lX7_collect_37 rc hrc a0 a1 a3 hj5 FU (a2 + (1 : Int32), (0 : Int32), h3) hF)) (fun q4 hF => ?_)
    refine v_iload (pc := 78) (i := 4) dX7_collect_78 rfl ?_
    exact v_iret (pc := 80) dX7_collect_80 rfl rfl (okr hF fun q => q)
  replace hF := (okB_if hF).2 hc
  refine v_iload_n (pc := 23) (i := 2) dX7_collect_23 rfl rfl ?_
  exact v_iret (pc := 24) dX7_collect_24 rfl rfl (okr hF fun q => q)
theorem tX7_collect {G : gG} : ∀ (r : Nat) (a0 : (Option Nat)) (a1 : (Option Nat)) (a2 : Int32) (a3 : Int32) (h : hp) (Q : hQ), okB (fX7_collect r a0 a1 a2 a3 h) (pH gI Q) → gS G mX7_collect r 0 0 [sr a0, sr a1, si a2, si a3] h Q
  | 0, _, _, _, _, _, _, hF => (okB_none hF).elim
  | r + 1, a0, a1, a2, a3, h, Q, hF => uX7_collect (fX7_collect r) (fun b0 b1 b2 b3 h1 Q1 hq => tX7_collect r b0 b1 b2 b3 h1 Q1 hq) a0 a1 a2 a3 h Q hF
/-! BrailleDesk$Tree.reorder -/
theorem tX7_reorder {G : gG} (a0 : Nat) (h : hp) (Q : hQ) (hF : okB (fX7_reorder a0 h) (pH gU Q)) : gS G mX7_reorder 52 0 0 [sr (some a0)] h Q := by
  delta fX7_reorder at hF
  refine gS_at [some (sr (some a0))] pl_X7 rfl (Nat.le_of_ble_eq_true rfl) rfl ?_
  refine v_aload_n (pc := 0) (i := 0) dX7_reorder_0 rfl rfl ?_
  refine v_aload_n (pc := 1) (i := 0) dX7_reorder_1 rfl rfl ?_
  refine s_getR (pc := 2) dX7_reorder_2 flX7_14 rfl hF (fun x1 hF => ?_)
  refine v_aload_n (pc := 5) (i := 0) dX7_reorder_5 rfl rfl ?_
  refine s_getR (pc := 6) dX7_reorder_6 flX7_31 rfl hF (fun x2 hF => ?_)
  refine v_iconst (pc := 9) (v := (0 : Int32)) dX7_reorder_9 rfl ?_
  refine v_iconst (pc := 10) (v := (0 : Int32)) dX7_reorder_10 rfl ?_
  refine ch_S (pc := 11) gI (as := [sr x1, sr x2, si (0 : Int32), si (0 : Int32)]) (st := [sr (some a0)]) (N := mX7_collect) (k := 0) (n := 0) (k1 := 0) (n1 := 0) dX7_reorder_11 lkX7_69 caX7_collect csX7_collect rfl (fun Q1 hq => tX7_collect 51 x1 x2 (0 : Int32) (0 : Int32) h Q1 hq) ⟨by decide, by decide⟩ (Nat.le_of_ble_eq_true rfl) rfl hF (fun x3 h4 hF => ?_)
  show gV G mX7_reorder 52 Q 14 [some (sr (some a0))] [si x3, sr (some a0)] (0) (0) h4
  refine s_putI (pc := 14) dX7_reorder_14 flX7_34 (Or.inl rfl) rfl hF (fun h5 hF => ?_)
  exact v_ret (pc := 17) dX7_reorder_17 rfl (okr hF fun q => q)
/-! BrailleDesk$Tree.make -/
theorem tX7_make {G : gG} (a0 : Nat) (a1 : (Option Nat)) (a2 : Int32) (a3 : Int32) (a4 : (Option Nat)) (h : hp) (Q : hQ) (hF : okB (fX7_make a0 a1 a2 a3 a4 h) (pH gR Q)) : gS G mX7_make 53 8 331 [sr (some a0), sr a1, si a2, si a3, sr a4] h Q := by
  delta fX7_make at hF
  refine gS_at [some (sr (some a0)), some (sr a1), some (si a2), some (si a3), some (sr a4), none] pl_X7 rfl (Nat.le_of_ble_eq_true rfl) rfl ?_
  refine v_new (pc := 0) (ci := 1) (k := 7) (n := 316) dX7_make_0 (by decide) ccX7_9 ins_1 ini_1 ?_
  refine v_dup (pc := 3) dX7_make_3 rfl ?_
  refine v_aload_n (pc := 4) (i := 0) dX7_make_4 rfl rfl ?_
  refine s_getI (pc := 5) dX7_make_5 flX7_24 rfl hF (fun x1 hF => ?_)
  refine v_iload_n (pc := 8) (i := 3) dX7_make_8 rfl rfl ?_
  refine v_aload_n (pc := 9) (i := 1) dX7_make_9 rfl rfl ?_
  refine ch_I (pc := 10) (as := [si x1, si a3, sr a1]) (st := [sr (some (hN h))]) (N := mX2_init) (k := 0) (n := 0) (k1 := 7) (n1 := 316) dX7_make_10 lkX7_11 caX2_init ciX2_init rfl rfl rfl (fun Q1 hq => tX2_init (hN h) x1 a3 a1 (wN h (2, 0)) Q1 hq) ⟨by decide, by decide⟩ (Nat.le_of_ble_eq_true rfl) rfl hF (fun x2 h3 hF => ?_)
  refine v_astore (pc := 13) (i := 5) [some (sr (some a0)), some (sr a1), some (si a2), some (si a3), some (sr a4), some (sr (some (hN h)))] dX7_make_13 (by decide) rfl rfl ?_
  refine v_aload (pc := 15) (i := 5) dX7_make_15 rfl ?_
  refine s_getR (pc := 17) dX7_make_17 flX7_41 rfl hF (fun x4 hF => ?_)
  refine v_aload (pc := 20) (i := 4) dX7_make_20 rfl ?_
  refine ch_V (pc := 22) gU (as := [sr a4]) (st := []) (ci := 0) (N := mX1_copy) (k := 0) (n := 0) (k1 := 0) (n1 := 0) dX7_make_22 lkX7_45 caX1_copy cvX1_copy rfl (by decide) rfl (fun b Q1 hq => tX1_copy b a4 h3 Q1 hq) ⟨by decide, by decide⟩ (Nat.le_of_ble_eq_true rfl) rfl hF (fun x5 h6 hF => ?_)
  show gV G mX7_make 53 Q 25 [some (sr (some a0)), some (sr a1), some (si a2), some (si a3), some (sr a4), some (sr (some (hN h)))] [] (0) (0) h6
  refine v_aload_n (pc := 25) (i := 0) dX7_make_25 rfl rfl ?_
  refine s_getI (pc := 26) dX7_make_26 flX7_24 rfl hF (fun x7 hF => ?_)
  refine v_if_lt (pc := 29) 86 dX7_make_29 rfl (fun hc => ?_) (fun hc => ?_)
  · replace hF := (okB_if hF).1 hc
    refine v_aload (pc := 86) (i := 5) dX7_make_86 rfl ?_
    exact v_aret (pc := 88) dX7_make_88 rfl (Or.inl ⟨_, rfl⟩) (okr hF fun q => q)
  replace hF := (okB_if hF).2 hc
  refine v_aload_n (pc := 32) (i := 0) dX7_make_32 rfl rfl ?_
  refine s_getI (pc := 33) dX7_make_33 flX7_24 rfl hF (fun x8 hF => ?_)
  refine v_aload_n (pc := 36) (i := 0) dX7_make_36 rfl rfl ?_
  refine s_getR (pc := 37) dX7_make_37 flX7_20 rfl hF (fun x9 hF => ?_)
  refine s_alen (pc := 40) dX7_make_40 hF (fun x10 hF => ?_)
  refine v_icmp_ge (pc := 41) 86 dX7_make_41 rfl (fun hc => ?_) (fun hc => ?_)
  · replace hF := (okB_if hF).1 hc
    refine v_aload (pc := 86) (i := 5) dX7_make_86 rfl ?_
    exact v_aret (pc := 88) dX7_make_88 rfl (Or.inl ⟨_, rfl⟩) (okr hF fun q => q)
  replace hF := (okB_if hF).2 hc
  refine v_aload_n (pc := 44) (i := 0) dX7_make_44 rfl rfl ?_
  refine s_getR (pc := 45) dX7_make_45 flX7_20 rfl hF (fun x11 hF => ?_)
  refine v_aload_n (pc := 48) (i := 0) dX7_make_48 rfl rfl ?_
  refine s_getI (pc := 49) dX7_make_49 flX7_24 rfl hF (fun x12 hF => ?_)
  refine v_aload (pc := 52) (i := 5) dX7_make_52 rfl ?_
  refine s_aast22 (pc := 54) dX7_make_54 hF (fun h13 hF => ?_)
  refine v_aload_n (pc := 55) (i := 0) dX7_make_55 rfl rfl ?_
  refine v_dup (pc := 56) dX7_make_56 rfl ?_
  refine s_getI (pc := 57) dX7_make_57 flX7_24 rfl hF (fun x14 hF => ?_)
  refine v_iconst (pc := 60) (v := (1 : Int32)) dX7_make_60 rfl ?_
  refine v_iadd (pc := 61) dX7_make_61 ?_
  refine s_putI (pc := 62) dX7_make_62 flX7_24 (Or.inl rfl) rfl hF (fun h15 hF => ?_)
  refine v_aload_n (pc := 65) (i := 0) dX7_make_65 rfl rfl ?_
  refine v_dup (pc := 66) dX7_make_66 rfl ?_
  refine s_getI (pc := 67) dX7_make_67 flX7_28 rfl hF (fun x16 hF => ?_)
  refine v_iconst (pc := 70) (v := (1 : Int32)) dX7_make_70 rfl ?_
  refine v_iadd (pc := 71) dX7_make_71 ?_
  refine s_putI (pc := 72) dX7_make_72 flX7_28 (Or.inl rfl) rfl hF (fun h17 hF => ?_)
  refine v_aload_n (pc := 75) (i := 1) dX7_make_75 rfl rfl ?_
  refine v_aload (pc := 76) (i := 5) dX7_make_76 rfl ?_
  refine v_iload_n (pc := 78) (i := 2) dX7_make_78 rfl rfl ?_
  refine ch_V (pc := 79) gU (as := [sr (some (hN h)), si a2]) (st := []) (ci := 1) (N := mX2_insert) (k := 0) (n := 0) (k1 := 0) (n1 := 0) dX7_make_79 lkX7_51 caX2_insert cvX2_insert rfl (by decide) rfl (fun b Q1 hq => tX2_insert b (some (hN h)) a2 h17 Q1 hq) ⟨by decide, by decide⟩ (Nat.le_of_ble_eq_true rfl) rfl hF (fun x18 h19 hF => ?_)
  show gV G mX7_make 53 Q 82 [some (sr (some a0)), some (sr a1), some (si a2), some (si a3), some (sr a4), some (sr (some (hN h)))] [] (0) (0) h19
  refine v_aload_n (pc := 82) (i := 0) dX7_make_82 rfl rfl ?_
  refine ch_V (pc := 83) gU (as := []) (st := []) (ci := 6) (N := mX7_reorder) (k := 0) (n := 0) (k1 := 0) (n1 := 0) dX7_make_83 lkX7_55 caX7_reorder cvX7_reorder rfl (by decide) rfl (fun b Q1 hq => tX7_reorder b h19 Q1 hq) ⟨by decide, by decide⟩ (Nat.le_of_ble_eq_true rfl) rfl hF (fun x20 h21 hF => ?_)
  show gV G mX7_make 53 Q 86 [some (sr (some a0)), some (sr a1), some (si a2), some (si a3), some (sr a4), some (sr (some (hN h)))] [] (0) (0) h21
  refine v_aload (pc := 86) (i := 5) dX7_make_86 rfl ?_
  exact v_aret (pc := 88) dX7_make_88 rfl (Or.inl ⟨_, rfl⟩) (okr hF fun q => q)
/-! BrailleDesk$Tree.takeOut -/
theorem lX7_takeOut_7 {G : gG} {Q : hQ} {P : hp → Prop} {k n : Nat} (c0 : Nat) (c1 : (Option Nat)) (c2 : Int32) (hJ : ∀ q : hp, P q → gV G mX7_takeOut 53 Q 61 [some (sr (some c0)), some (sr c1), some (si c2), none, none] [] (k) (n) q) : ∀ (fu : Nat) (a : (Int32 × hp)), okB (itr (fX7_takeOut_B7 c0 c1 c2) fu a) P → gV G mX7_takeOut 53 Q 7 [some (sr (some c0)), some (sr c1), some (si c2), some (si a.1), none] [] (k) (n) a.2 :=
  lpg (X := fun (a : (Int32 × hp)) => gV G mX7_takeOut 53 Q 7 [some (sr (some c0)), some (sr c1), some (si c2), some (si a.1), none] [] (k) (n) a.2) (fun a P2 hL hE hF => by
    delta fX7_takeOut_B7 at hF
    refine v_iload_n (pc := 7) (i := 3) dX7_takeOut_7 rfl rfl ?_
    refine v_aload_n (pc := 8) (i := 0) dX7_takeOut_8 rfl rfl ?_
    refine s_getR (pc := 9) dX7_takeOut_9 flX7_20 rfl hF (fun x1 hF => ?_)
    refine s_alen (pc := 12) dX7_takeOut_12 hF (fun x2 hF => ?_)
    refine v_icmp_ge (pc := 13) 61 dX7_takeOut_13 rfl (fun hc => ?_) (fun hc => ?_)
    · replace hF := (okB_if hF).1 hc
      exact v_lle [some (sr (some c0)), some (sr c1), some (si c2), none, none] ⟨rfl, rfl, rfl, trivial⟩ (hJ a.2 (hE _ (okB_some hF)))
    replace hF := (okB_if hF).2 hc
    refine v_aload_n (pc := 16) (i := 0) dX7_takeOut_16 rfl rfl ?_
    refine s_getR (pc := 17) dX7_takeOut_17 flX7_20 rfl hF (fun x3 hF => ?_)
    refine v_iload_n (pc := 20) (i := 3) dX7_takeOut_20 rfl rfl ?_
    refine s_aald22 (pc := 21) dX7_takeOut_21 hF (fun x4 hF => ?_)
    refine v_astore (pc := 22) (i := 4) [some (sr (some c0)), some (sr c1), some (si c2), some (si a.1), some (sr x4)] dX7_takeOut_22 (by decide) rfl rfl ?_
    refine v_aload (pc := 24) (i := 4) dX7_takeOut_24 rfl ?_
    refine s_ifnull (pc := 26) 55 dX7_takeOut_26 rfl hF (fun hF => ?_) (fun hF => ?_)
    · refine v_iinc (pc := 55) (i := 3) (a.1 + (1 : Int32)) [some (sr (some c0)), some (sr c1), some (si c2), some (si (a.1 + (1 : Int32))), some (sr x4)] dX7_takeOut_55 rfl rfl rfl rfl ?_
      refine v_goto (pc := 58) 7 dX7_takeOut_58 rfl ?_
      exact v_lle [some (sr (some c0)), some (sr c1), some (si c2), some (si (a.1 + (1 : Int32))), none] ⟨rfl, rfl, rfl, rfl, trivial⟩ (hL (a.1 + (1 : Int32), a.2) (okB_some hF))
    refine v_aload (pc := 29) (i := 4) dX7_takeOut_29 rfl ?_
    refine v_aload_n (pc := 31) (i := 1) dX7_takeOut_31 rfl rfl ?_
    refine cp_V (pc := 32) gI (as := [sr c1]) (st := []) (ci := 1) (N := mX2_isWithin) (k := k) (n := n) (k1 := 0) (n1 := 0) dX7_takeOut_32 lkX7_58 caX2_isWithin cvX2_isWithin rfl (by decide) rfl (fun b Q1 hq => tX2_isWithin b c1 a.2 Q1 hq) ⟨by decide, by decide⟩ (Nat.le_of_ble_eq_true rfl) rfl hF (fun x5 hF => ?_)
    show gV G mX7_takeOut 53 Q 35 [some (sr (some c0)), some (sr c1), some (si c2), some (si a.1), some (sr x4)] [si x5] (k) (n) a.2
    refine v_if_eq (pc := 35) 55 dX7_takeOut_35 rfl (fun hc => ?_) (fun hc => ?_)
    · replace hF := (okB_if hF).1 hc
      refine v_iinc (pc := 55) (i := 3) (a.1 + (1 : Int32)) [some (sr (some c0)), some (sr c1), some (si c2), some (si (a.1 + (1 : Int32))), some (sr x4)] dX7_takeOut_55 rfl rfl rfl rfl ?_
      refine v_goto (pc := 58) 7 dX7_takeOut_58 rfl ?_
      exact v_lle [some (sr (some c0)), some (sr c1), some (si c2), some (si (a.1 + (1 : Int32))), none] ⟨rfl, rfl, rfl, rfl, trivial⟩ (hL (a.1 + (1 : Int32), a.2) (okB_some hF))
    replace hF := (okB_if hF).2 hc
    refine v_aload_n (pc := 38) (i := 0) dX7_takeOut_38 rfl rfl ?_
    refine s_getR (pc := 39) dX7_takeOut_39 flX7_20 rfl hF (fun x6 hF => ?_)
    refine v_iload_n (pc := 42) (i := 3) dX7_takeOut_42 rfl rfl ?_
    refine v_null (pc := 43) dX7_takeOut_43 ?_
    refine s_aast22 (pc := 44) dX7_takeOut_44 hF (fun h7 hF => ?_)
    refine v_aload_n (pc := 45) (i := 0) dX7_takeOut_45 rfl rfl ?_
    refine v_dup (pc := 46) dX7_takeOut_46 rfl ?_
    refine s_getI (pc := 47) dX7_takeOut_47 flX7_28 rfl hF (fun x8 hF => ?_)
    refine v_iconst (pc := 50) (v := (1 : Int32)) dX7_takeOut_50 rfl ?_
    refine v_isub (pc := 51) dX7_takeOut_51 ?_
    refine s_putI (pc := 52) dX7_takeOut_52 flX7_28 (Or.inl rfl) rfl hF (fun h9 hF => ?_)
    refine v_iinc (pc := 55) (i := 3) (a.1 + (1 : Int32)) [some (sr (some c0)), some (sr c1), some (si c2), some (si (a.1 + (1 : Int32))), some (sr x4)] dX7_takeOut_55 rfl rfl rfl rfl ?_
    refine v_goto (pc := 58) 7 dX7_takeOut_58 rfl ?_
    exact v_lle [some (sr (some c0)), some (sr c1), some (si c2), some (si (a.1 + (1 : Int32))), none] ⟨rfl, rfl, rfl, rfl, trivial⟩ (hL (a.1 + (1 : Int32), h9) (okB_some hF)))
theorem tX7_takeOut {G : gG} (a0 : Nat) (a1 : (Option Nat)) (h : hp) (Q : hQ) (hF : okB (fX7_takeOut a0 a1 h) (pH gI Q)) : gS G mX7_takeOut 53 0 0 [sr (some a0), sr a1] h Q := by
  delta fX7_takeOut at hF
  refine gS_at [some (sr (some a0)), some (sr a1), none, none, none] pl_X7 rfl (Nat.le_of_ble_eq_true rfl) rfl ?_
  refine v_aload_n (pc := 0) (i := 0) dX7_takeOut_0 rfl rfl ?_
  refine s_getI (pc := 1) dX7_takeOut_1 flX7_28 rfl hF (fun x1 hF => ?_)
  refine v_istore_n (pc := 4) (i := 2) [some (sr (some a0)), some (sr a1), some (si x1), none, none] dX7_takeOut_4 rfl (by decide) rfl rfl ?_
  refine v_iconst (pc := 5) (v := (0 : Int32)) dX7_takeOut_5 rfl ?_
  refine v_istore_n (pc := 6) (i := 3) [some (sr (some a0)), some (sr a1), some (si x1), some (si (0 : Int32)), none] dX7_takeOut_6 rfl (by decide) rfl rfl ?_
  refine mg (X := fun q2 => gV G mX7_takeOut 53 Q 61 [some (sr (some a0)), some (sr a1), some (si x1), none, none] [] (0) (0) q2) hF (fun _ hj12 hF => v_lle [some (sr (some a0)), some (sr a1), some (si x1), some (si (0 : Int32)), none] ⟨rfl, rfl, rfl, rfl, trivial⟩ (lX7_takeOut_7 a0 a1 x1 hj12 FU ((0 : Int32), h) hF)) (fun q2 hF => ?_)
  refine v_aload_n (pc := 61) (i := 1) dX7_takeOut_61 rfl rfl ?_
  refine s_getR (pc := 62) dX7_takeOut_62 flX7_62 rfl hF (fun x3 hF => ?_)
  refine mg (X := fun q4 => gV G mX7_takeOut 53 Q 76 [some (sr (some a0)), none, some (si x1), none, none] [] (0) (0) q4) hF (fun _ hj5 hF => ?_) (fun q4 hF => ?_)
  · refine s_ifnull (pc := 65) 76 dX7_takeOut_65 rfl hF (fun hF => ?_) (fun hF => ?_)
    · exact v_lle [some (sr (some a0)), none, some (si x1), none, none] ⟨rfl, rfl, trivial⟩ (hj5 q2 (okB_some hF))
    refine v_aload_n (pc := 68) (i := 1) dX7_takeOut_68 rfl rfl ?_
    refine s_getR (pc := 69) dX7_takeOut_69 flX7_62 rfl hF (fun x6 hF => ?_)
    refine v_aload_n (pc := 72) (i := 1) dX7_takeOut_72 rfl rfl ?_
    refine ch_V (pc := 73) gU (as := [sr a1]) (st := []) (ci := 1) (N := mX2_takeOut) (k := 0) (n := 0) (k1 := 0) (n1 := 0) dX7_takeOut_73 lkX7_65 caX2_takeOut cvX2_takeOut rfl (by decide) rfl (fun b Q1 hq => tX2_takeOut b a1 q2 Q1 hq) ⟨by decide, by decide⟩ (Nat.le_of_ble_eq_true rfl) rfl hF (fun x7 h8 hF => ?_)
    show gV G mX7_takeOut 53 Q 76 [some (sr (some a0)), some (sr a1), some (si x1), none, none] [] (0) (0) h8
    exact v_lle [some (sr (some a0)), none, some (si x1), none, none] ⟨rfl, rfl, trivial⟩ (hj5 h8 (okB_some hF))
  refine v_aload_n (pc := 76) (i := 0) dX7_takeOut_76 rfl rfl ?_
  refine ch_V (pc := 77) gU (as := []) (st := []) (ci := 6) (N := mX7_reorder) (k := 0) (n := 0) (k1 := 0) (n1 := 0) dX7_takeOut_77 lkX7_55 caX7_reorder cvX7_reorder rfl (by decide) rfl (fun b Q1 hq => tX7_reorder b q4 Q1 hq) ⟨by decide, by decide⟩ (Nat.le_of_ble_eq_true rfl) rfl hF (fun x9 h10 hF => ?_)
  show gV G mX7_takeOut 53 Q 80 [some (sr (some a0)), none, some (si x1), none, none] [] (0) (0) h10
  refine v_iload_n (pc := 80) (i := 2) dX7_takeOut_80 rfl rfl ?_
  refine v_aload_n (pc := 81) (i := 0) dX7_takeOut_81 rfl rfl ?_
  refine s_getI (pc := 82) dX7_takeOut_82 flX7_28 rfl hF (fun x11 hF => ?_)
  refine v_isub (pc := 85) dX7_takeOut_85 ?_
  exact v_iret (pc := 86) dX7_takeOut_86 rfl rfl (okr hF fun q => q)
/-! BrailleDesk$Tree.nextOfKind -/
theorem lX7_nextOfKind_8 {G : gG} {Q : hQ} {P : ((Option Nat) ⊕ Unit) → Prop} {k n : Nat} (c0 : Nat) (c2 : Int32) (h : hp) (hJ : ∀ q : Unit, P (.inr q) → gV G mX7_nextOfKind 2 Q 46 [none, none, none, none, none] [] (k) (n) h) (hR : ∀ r : (Option Nat), P (.inl (r)) → (pP gR Q h) r) : ∀ (fu : Nat) (a : Int32), okB (itr (fX7_nextOfKind_B8 c0 c2 h) fu a) P → gV G mX7_nextOfKind 2 Q 8 [some (sr (some c0)), none, some (si c2), some (si a), none] [] (k) (n) h :=
  lpg (X := fun (a : Int32) => gV G mX7_nextOfKind 2 Q 8 [some (sr (some c0)), none, some (si c2), some (si a), none] [] (k) (n) h) (fun a P2 hL hE hF => by
    delta fX7_nextOfKind_B8 at hF
    refine v_iload_n (pc := 8) (i := 3) dX7_nextOfKind_8 rfl rfl ?_
    refine v_aload_n (pc := 9) (i := 0) dX7_nextOfKind_9 rfl rfl ?_
    refine s_getI (pc := 10) dX7_nextOfKind_10 flX7_34 rfl hF (fun x1 hF => ?_)
    refine v_icmp_ge (pc := 13) 46 dX7_nextOfKind_13 rfl (fun hc => ?_) (fun hc => ?_)
    · replace hF := (okB_if hF).1 hc
      exact v_lle [none, none, none, none, none] trivial (hJ () (hE _ (okB_some hF)))
    replace hF := (okB_if hF).2 hc
    refine v_aload_n (pc := 16) (i := 0) dX7_nextOfKind_16 rfl rfl ?_
    refine v_iload_n (pc := 17) (i := 3) dX7_nextOfKind_17 rfl rfl ?_
    refine cp_V (pc := 18) gR (as := [si a]) (st := []) (ci := 6) (N := mX7_inOrder) (k := k) (n := n) (k1 := 0) (n1 := 0) dX7_nextOfKind_18 lkX7_37 caX7_inOrder cvX7_inOrder rfl (by decide) rfl (fun b Q1 hq => tX7_inOrder b a h Q1 hq) ⟨by decide, by decide⟩ (Nat.le_of_ble_eq_true rfl) rfl hF (fun x2 hF => ?_)
    show gV G mX7_nextOfKind 2 Q 21 [some (sr (some c0)), none, some (si c2), some (si a), none] [sr x2] (k) (n) h
    refine v_astore (pc := 21) (i := 4) [some (sr (some c0)), none, some (si c2), some (si a), some (sr x2)] dX7_nextOfKind_21 (by decide) rfl rfl ?_
    refine v_aload (pc := 23) (i := 4) dX7_nextOfKind_23 rfl ?_
    refine s_ifnull (pc := 25) 40 dX7_nextOfKind_25 rfl hF (fun hF => ?_) (fun hF => ?_)
    · refine v_iinc (pc := 40) (i := 3) (a + (1 : Int32)) [some (sr (some c0)), none, some (si c2), some (si (a + (1 : Int32))), some (sr x2)] dX7_nextOfKind_40 rfl rfl rfl rfl ?_
      refine v_goto (pc := 43) 8 dX7_nextOfKind_43 rfl ?_
      exact v_lle [some (sr (some c0)), none, some (si c2), some (si (a + (1 : Int32))), none] ⟨rfl, rfl, rfl, trivial⟩ (hL (a + (1 : Int32)) (okB_some hF))
    refine v_aload (pc := 28) (i := 4) dX7_nextOfKind_28 rfl ?_
    refine s_getI (pc := 30) dX7_nextOfKind_30 flX7_88 rfl hF (fun x3 hF => ?_)
    refine v_iload_n (pc := 33) (i := 2) dX7_nextOfKind_33 rfl rfl ?_
    refine v_icmp_ne (pc := 34) 40 dX7_nextOfKind_34 rfl (fun hc => ?_) (fun hc => ?_)
    · replace hF := (okB_if hF).2 hc
      refine v_iinc (pc := 40) (i := 3) (a + (1 : Int32)) [some (sr (some c0)), none, some (si c2), some (si (a + (1 : Int32))), some (sr x2)] dX7_nextOfKind_40 rfl rfl rfl rfl ?_
      refine v_goto (pc := 43) 8 dX7_nextOfKind_43 rfl ?_
      exact v_lle [some (sr (some c0)), none, some (si c2), some (si (a + (1 : Int32))), none] ⟨rfl, rfl, rfl, trivial⟩ (hL (a + (1 : Int32)) (okB_some hF))
    replace hF := (okB_if hF).1 hc
    refine v_aload (pc := 37) (i := 4) dX7_nextOfKind_37 rfl ?_
    exact v_aret (pc := 39) dX7_nextOfKind_39 rfl (Or.inl ⟨_, rfl⟩) (hR _ (hE _ (okB_some hF))))
theorem tX7_nextOfKind {G : gG} (a0 : Nat) (a1 : (Option Nat)) (a2 : Int32) (h : hp) (Q : hQ) (hF : okB (fX7_nextOfKind a0 a1 a2 h) (pP gR Q h)) : gS G mX7_nextOfKind 2 0 0 [sr (some a0), sr a1, si a2] h Q := by
  delta fX7_nextOfKind at hF
  refine gS_at [some (sr (some a0)), some (sr a1), some (si a2), none, none] pl_X7 rfl (Nat.le_of_ble_eq_true rfl) rfl ?_
  refine v_aload_n (pc := 0) (i := 0) dX7_nextOfKind_0 rfl rfl ?_
  refine v_aload_n (pc := 1) (i := 1) dX7_nextOfKind_1 rfl rfl ?_
  refine cp_V (pc := 2) gI (as := [sr a1]) (st := []) (ci := 6) (N := mX7_placeInOrder) (k := 0) (n := 0) (k1 := 0) (n1 := 0) dX7_nextOfKind_2 lkX7_84 caX7_placeInOrder cvX7_placeInOrder rfl (by decide) rfl (fun b Q1 hq => tX7_placeInOrder b a1 h Q1 hq) ⟨by decide, by decide⟩ (Nat.le_of_ble_eq_true rfl) rfl hF (fun x1 hF => ?_)
  show gV G mX7_nextOfKind 2 Q 5 [some (sr (some a0)), some (sr a1), some (si a2), none, none] [si x1] (0) (0) h
  refine v_iconst (pc := 5) (v := (1 : Int32)) dX7_nextOfKind_5 rfl ?_
  refine v_iadd (pc := 6) dX7_nextOfKind_6 ?_
  refine v_istore_n (pc := 7) (i := 3) [some (sr (some a0)), some (sr a1), some (si a2), some (si (x1 + (1 : Int32))), none] dX7_nextOfKind_7 rfl (by decide) rfl rfl ?_
  refine mgR (X := fun q2 => gV G mX7_nextOfKind 2 Q 46 [none, none, none, none, none] [] (0) (0) h) hF (fun _ hj3 hr3 hF => v_lle [some (sr (some a0)), none, some (si a2), some (si (x1 + (1 : Int32))), none] ⟨rfl, rfl, rfl, trivial⟩ (lX7_nextOfKind_8 a0 a2 h hj3 (fun _ hp => (hr3 _ hp)) FU (x1 + (1 : Int32)) hF)) (fun q2 hF => ?_)
  refine v_null (pc := 46) dX7_nextOfKind_46 ?_
  exact v_aret (pc := 47) dX7_nextOfKind_47 rfl (Or.inl ⟨_, rfl⟩) (okr hF fun q => q)
